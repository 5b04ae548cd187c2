def q_Integer_numberOfLeadingZeros (a0 : Int32) : Int32 :=
  if 0 < a0 then
    if a0 < (65536 : Int32) then
      if a0 < (256 : Int32) then
        if a0 < (16 : Int32) then
          if a0 < (4 : Int32) then
            ((31 : Int32) - (iush_ a0 (1 : Int32)))
          else
            (((31 : Int32) + (-2 : Int32)) - (iush_ (iush_ a0 (2 : Int32)) (1 : Int32)))
        else
          if (iush_ a0 (4 : Int32)) < (4 : Int32) then
            (((31 : Int32) + (-4 : Int32)) - (iush_ (iush_ a0 (4 : Int32)) (1 : Int32)))
          else
            ((((31 : Int32) + (-4 : Int32)) + (-2 : Int32)) - (iush_ (iush_ (iush_ a0 (4 : Int32)) (2 : Int32)) (1 : Int32)))
      else
        if (iush_ a0 (8 : Int32)) < (16 : Int32) then
          if (iush_ a0 (8 : Int32)) < (4 : Int32) then
            (((31 : Int32) + (-8 : Int32)) - (iush_ (iush_ a0 (8 : Int32)) (1 : Int32)))
          else
            ((((31 : Int32) + (-8 : Int32)) + (-2 : Int32)) - (iush_ (iush_ (iush_ a0 (8 : Int32)) (2 : Int32)) (1 : Int32)))
        else
          if (iush_ (iush_ a0 (8 : Int32)) (4 : Int32)) < (4 : Int32) then
            ((((31 : Int32) + (-8 : Int32)) + (-4 : Int32)) - (iush_ (iush_ (iush_ a0 (8 : Int32)) (4 : Int32)) (1 : Int32)))
          else
            (((((31 : Int32) + (-8 : Int32)) + (-4 : Int32)) + (-2 : Int32)) - (iush_ (iush_ (iush_ (iush_ a0 (8 : Int32)) (4 : Int32)) (2 : Int32)) (1 : Int32)))
    else
      if (iush_ a0 (16 : Int32)) < (256 : Int32) then
        if (iush_ a0 (16 : Int32)) < (16 : Int32) then
          if (iush_ a0 (16 : Int32)) < (4 : Int32) then
            (((31 : Int32) + (-16 : Int32)) - (iush_ (iush_ a0 (16 : Int32)) (1 : Int32)))
          else
            ((((31 : Int32) + (-16 : Int32)) + (-2 : Int32)) - (iush_ (iush_ (iush_ a0 (16 : Int32)) (2 : Int32)) (1 : Int32)))
        else
          if (iush_ (iush_ a0 (16 : Int32)) (4 : Int32)) < (4 : Int32) then
            ((((31 : Int32) + (-16 : Int32)) + (-4 : Int32)) - (iush_ (iush_ (iush_ a0 (16 : Int32)) (4 : Int32)) (1 : Int32)))
          else
            (((((31 : Int32) + (-16 : Int32)) + (-4 : Int32)) + (-2 : Int32)) - (iush_ (iush_ (iush_ (iush_ a0 (16 : Int32)) (4 : Int32)) (2 : Int32)) (1 : Int32)))
      else
        if (iush_ (iush_ a0 (16 : Int32)) (8 : Int32)) < (16 : Int32) then
          if (iush_ (iush_ a0 (16 : Int32)) (8 : Int32)) < (4 : Int32) then
            ((((31 : Int32) + (-16 : Int32)) + (-8 : Int32)) - (iush_ (iush_ (iush_ a0 (16 : Int32)) (8 : Int32)) (1 : Int32)))
          else
            (((((31 : Int32) + (-16 : Int32)) + (-8 : Int32)) + (-2 : Int32)) - (iush_ (iush_ (iush_ (iush_ a0 (16 : Int32)) (8 : Int32)) (2 : Int32)) (1 : Int32)))
        else
          if (iush_ (iush_ (iush_ a0 (16 : Int32)) (8 : Int32)) (4 : Int32)) < (4 : Int32) then
            (((((31 : Int32) + (-16 : Int32)) + (-8 : Int32)) + (-4 : Int32)) - (iush_ (iush_ (iush_ (iush_ a0 (16 : Int32)) (8 : Int32)) (4 : Int32)) (1 : Int32)))
          else
            ((((((31 : Int32) + (-16 : Int32)) + (-8 : Int32)) + (-4 : Int32)) + (-2 : Int32)) - (iush_ (iush_ (iush_ (iush_ (iush_ a0 (16 : Int32)) (8 : Int32)) (4 : Int32)) (2 : Int32)) (1 : Int32)))
  else
    if a0 = 0 then
      (32 : Int32)
    else
      (0 : Int32)
theorem kB_Integer_numberOfLeadingZeros : SB y_Integer_numberOfLeadingZeros b_Integer_numberOfLeadingZeros 2 (some .int) 1 := ⟨wt_210, wt_209, wt_47, by decide +kernel⟩
set_option maxHeartbeats 4000000 in
set_option maxRecDepth 100000 in
theorem c_Integer_numberOfLeadingZeros (l : Launch) (A : Nat → Prop) (ad : Nat → Nat) (a0 : Int32) : Met l y_Integer_numberOfLeadingZeros (Cond.code y_Integer_numberOfLeadingZeros b_Integer_numberOfLeadingZeros 2 (some .int) :: BT) ({ frames := 0, cells := 0, slots := 0, locals := 0 }) (PC A ad [.int a0]) (vp_Si (fun r => r = q_Integer_numberOfLeadingZeros a0)) 0 0 (fun _ => False) := by
  refine pm_ (by decide +kernel) (Nat.le_of_ble_eq_true rfl) ?_
  intro p e s m below meth c hq hr hk ls hl
  have hx := hq.1
  have hb := hq.2.1
  have hts := hq.2.2.2.2.1
  have hl : lv_has ls 2 [(0, .int a0)] := hl
  refine lv_iload_n hx hb d_Integer_numberOfLeadingZeros_0 rfl (lv_at hl 0 rfl) ?_
  refine lv_if_gt (tgt := 15) hx hb d_Integer_numberOfLeadingZeros_1 (by decide) (fun c_1 => ?_) (fun c_1 => ?_)
  · refine lv_bipush (v := (31 : Int32)) hx hb d_Integer_numberOfLeadingZeros_15 (by decide) ?_
    refine lv_istore_n (lv' := [(1, .int (31 : Int32)), (0, .int a0)]) hx hb d_Integer_numberOfLeadingZeros_17 rfl hl (by decide) rfl (fun ls hl => ?_)
    refine lv_iload_n hx hb d_Integer_numberOfLeadingZeros_18 rfl (lv_at hl 1 rfl) ?_
    refine lv_ldcw (v := (65536 : Int32)) hx hb hq.2.2.2.1 (hts _ wt_211) d_Integer_numberOfLeadingZeros_19 ?_
    refine lv_icmp_lt (tgt := 33) hx hb d_Integer_numberOfLeadingZeros_22 (by decide) (fun c_2 => ?_) (fun c_2 => ?_)
    · refine lv_iload_n hx hb d_Integer_numberOfLeadingZeros_33 rfl (lv_at hl 1 rfl) ?_
      refine lv_sipush (v := (256 : Int32)) hx hb d_Integer_numberOfLeadingZeros_34 (by decide) ?_
      refine lv_icmp_lt (tgt := 48) hx hb d_Integer_numberOfLeadingZeros_37 (by decide) (fun c_3 => ?_) (fun c_3 => ?_)
      · refine lv_iload_n hx hb d_Integer_numberOfLeadingZeros_48 rfl (lv_at hl 1 rfl) ?_
        refine lv_bipush (v := (16 : Int32)) hx hb d_Integer_numberOfLeadingZeros_49 (by decide) ?_
        refine lv_icmp_lt (tgt := 61) hx hb d_Integer_numberOfLeadingZeros_51 (by decide) (fun c_4 => ?_) (fun c_4 => ?_)
        · refine lv_iload_n hx hb d_Integer_numberOfLeadingZeros_61 rfl (lv_at hl 1 rfl) ?_
          refine lv_iconst (v := (4 : Int32)) hx hb d_Integer_numberOfLeadingZeros_62 (by decide) ?_
          refine lv_icmp_lt (tgt := 73) hx hb d_Integer_numberOfLeadingZeros_63 (by decide) (fun c_5 => ?_) (fun c_5 => ?_)
          · refine lv_iload_n hx hb d_Integer_numberOfLeadingZeros_73 rfl (lv_at hl 0 rfl) ?_
            refine lv_iload_n hx hb d_Integer_numberOfLeadingZeros_74 rfl (lv_at hl 1 rfl) ?_
            refine lv_iconst (v := (1 : Int32)) hx hb d_Integer_numberOfLeadingZeros_75 (by decide) ?_
            refine lv_iushr (v := (iush_ a0 (1 : Int32))) hx hb d_Integer_numberOfLeadingZeros_76 rfl ?_
            refine lv_isub hx hb d_Integer_numberOfLeadingZeros_77 ?_
            exact ri_ hx hb hr hk (by rw [q_Integer_numberOfLeadingZeros, if_pos c_1, if_pos c_2, if_pos c_3, if_pos c_4, if_pos c_5]) d_Integer_numberOfLeadingZeros_78
          · refine lv_iinc (v := ((31 : Int32) + (-2 : Int32))) (lv' := [(1, .int ((31 : Int32) + (-2 : Int32))), (0, .int a0)]) hx hb d_Integer_numberOfLeadingZeros_66 hl (k := 0) rfl rfl (by decide) rfl (fun ls hl => ?_)
            refine lv_iload_n hx hb d_Integer_numberOfLeadingZeros_69 rfl (lv_at hl 1 rfl) ?_
            refine lv_iconst (v := (2 : Int32)) hx hb d_Integer_numberOfLeadingZeros_70 (by decide) ?_
            refine lv_iushr (v := (iush_ a0 (2 : Int32))) hx hb d_Integer_numberOfLeadingZeros_71 rfl ?_
            refine lv_istore_n (lv' := [(0, .int (iush_ a0 (2 : Int32))), (1, .int ((31 : Int32) + (-2 : Int32)))]) hx hb d_Integer_numberOfLeadingZeros_72 rfl hl (by decide) rfl (fun ls hl => ?_)
            refine lv_iload_n hx hb d_Integer_numberOfLeadingZeros_73 rfl (lv_at hl 1 rfl) ?_
            refine lv_iload_n hx hb d_Integer_numberOfLeadingZeros_74 rfl (lv_at hl 0 rfl) ?_
            refine lv_iconst (v := (1 : Int32)) hx hb d_Integer_numberOfLeadingZeros_75 (by decide) ?_
            refine lv_iushr (v := (iush_ (iush_ a0 (2 : Int32)) (1 : Int32))) hx hb d_Integer_numberOfLeadingZeros_76 rfl ?_
            refine lv_isub hx hb d_Integer_numberOfLeadingZeros_77 ?_
            exact ri_ hx hb hr hk (by rw [q_Integer_numberOfLeadingZeros, if_pos c_1, if_pos c_2, if_pos c_3, if_pos c_4, if_neg c_5]) d_Integer_numberOfLeadingZeros_78
        · refine lv_iinc (v := ((31 : Int32) + (-4 : Int32))) (lv' := [(1, .int ((31 : Int32) + (-4 : Int32))), (0, .int a0)]) hx hb d_Integer_numberOfLeadingZeros_54 hl (k := 0) rfl rfl (by decide) rfl (fun ls hl => ?_)
          refine lv_iload_n hx hb d_Integer_numberOfLeadingZeros_57 rfl (lv_at hl 1 rfl) ?_
          refine lv_iconst (v := (4 : Int32)) hx hb d_Integer_numberOfLeadingZeros_58 (by decide) ?_
          refine lv_iushr (v := (iush_ a0 (4 : Int32))) hx hb d_Integer_numberOfLeadingZeros_59 rfl ?_
          refine lv_istore_n (lv' := [(0, .int (iush_ a0 (4 : Int32))), (1, .int ((31 : Int32) + (-4 : Int32)))]) hx hb d_Integer_numberOfLeadingZeros_60 rfl hl (by decide) rfl (fun ls hl => ?_)
          refine lv_iload_n hx hb d_Integer_numberOfLeadingZeros_61 rfl (lv_at hl 0 rfl) ?_
          refine lv_iconst (v := (4 : Int32)) hx hb d_Integer_numberOfLeadingZeros_62 (by decide) ?_
          refine lv_icmp_lt (tgt := 73) hx hb d_Integer_numberOfLeadingZeros_63 (by decide) (fun c_6 => ?_) (fun c_6 => ?_)
          · refine lv_iload_n hx hb d_Integer_numberOfLeadingZeros_73 rfl (lv_at hl 1 rfl) ?_
            refine lv_iload_n hx hb d_Integer_numberOfLeadingZeros_74 rfl (lv_at hl 0 rfl) ?_
            refine lv_iconst (v := (1 : Int32)) hx hb d_Integer_numberOfLeadingZeros_75 (by decide) ?_
            refine lv_iushr (v := (iush_ (iush_ a0 (4 : Int32)) (1 : Int32))) hx hb d_Integer_numberOfLeadingZeros_76 rfl ?_
            refine lv_isub hx hb d_Integer_numberOfLeadingZeros_77 ?_
            exact ri_ hx hb hr hk (by rw [q_Integer_numberOfLeadingZeros, if_pos c_1, if_pos c_2, if_pos c_3, if_neg c_4, if_pos c_6]) d_Integer_numberOfLeadingZeros_78
          · refine lv_iinc (v := (((31 : Int32) + (-4 : Int32)) + (-2 : Int32))) (lv' := [(1, .int (((31 : Int32) + (-4 : Int32)) + (-2 : Int32))), (0, .int (iush_ a0 (4 : Int32)))]) hx hb d_Integer_numberOfLeadingZeros_66 hl (k := 1) rfl rfl (by decide) rfl (fun ls hl => ?_)
            refine lv_iload_n hx hb d_Integer_numberOfLeadingZeros_69 rfl (lv_at hl 1 rfl) ?_
            refine lv_iconst (v := (2 : Int32)) hx hb d_Integer_numberOfLeadingZeros_70 (by decide) ?_
            refine lv_iushr (v := (iush_ (iush_ a0 (4 : Int32)) (2 : Int32))) hx hb d_Integer_numberOfLeadingZeros_71 rfl ?_
            refine lv_istore_n (lv' := [(0, .int (iush_ (iush_ a0 (4 : Int32)) (2 : Int32))), (1, .int (((31 : Int32) + (-4 : Int32)) + (-2 : Int32)))]) hx hb d_Integer_numberOfLeadingZeros_72 rfl hl (by decide) rfl (fun ls hl => ?_)
            refine lv_iload_n hx hb d_Integer_numberOfLeadingZeros_73 rfl (lv_at hl 1 rfl) ?_
            refine lv_iload_n hx hb d_Integer_numberOfLeadingZeros_74 rfl (lv_at hl 0 rfl) ?_
            refine lv_iconst (v := (1 : Int32)) hx hb d_Integer_numberOfLeadingZeros_75 (by decide) ?_
            refine lv_iushr (v := (iush_ (iush_ (iush_ a0 (4 : Int32)) (2 : Int32)) (1 : Int32))) hx hb d_Integer_numberOfLeadingZeros_76 rfl ?_
            refine lv_isub hx hb d_Integer_numberOfLeadingZeros_77 ?_
            exact ri_ hx hb hr hk (by rw [q_Integer_numberOfLeadingZeros, if_pos c_1, if_pos c_2, if_pos c_3, if_neg c_4, if_neg c_6]) d_Integer_numberOfLeadingZeros_78
      · refine lv_iinc (v := ((31 : Int32) + (-8 : Int32))) (lv' := [(1, .int ((31 : Int32) + (-8 : Int32))), (0, .int a0)]) hx hb d_Integer_numberOfLeadingZeros_40 hl (k := 0) rfl rfl (by decide) rfl (fun ls hl => ?_)
        refine lv_iload_n hx hb d_Integer_numberOfLeadingZeros_43 rfl (lv_at hl 1 rfl) ?_
        refine lv_bipush (v := (8 : Int32)) hx hb d_Integer_numberOfLeadingZeros_44 (by decide) ?_
        refine lv_iushr (v := (iush_ a0 (8 : Int32))) hx hb d_Integer_numberOfLeadingZeros_46 rfl ?_
        refine lv_istore_n (lv' := [(0, .int (iush_ a0 (8 : Int32))), (1, .int ((31 : Int32) + (-8 : Int32)))]) hx hb d_Integer_numberOfLeadingZeros_47 rfl hl (by decide) rfl (fun ls hl => ?_)
        refine lv_iload_n hx hb d_Integer_numberOfLeadingZeros_48 rfl (lv_at hl 0 rfl) ?_
        refine lv_bipush (v := (16 : Int32)) hx hb d_Integer_numberOfLeadingZeros_49 (by decide) ?_
        refine lv_icmp_lt (tgt := 61) hx hb d_Integer_numberOfLeadingZeros_51 (by decide) (fun c_7 => ?_) (fun c_7 => ?_)
        · refine lv_iload_n hx hb d_Integer_numberOfLeadingZeros_61 rfl (lv_at hl 0 rfl) ?_
          refine lv_iconst (v := (4 : Int32)) hx hb d_Integer_numberOfLeadingZeros_62 (by decide) ?_
          refine lv_icmp_lt (tgt := 73) hx hb d_Integer_numberOfLeadingZeros_63 (by decide) (fun c_8 => ?_) (fun c_8 => ?_)
          · refine lv_iload_n hx hb d_Integer_numberOfLeadingZeros_73 rfl (lv_at hl 1 rfl) ?_
            refine lv_iload_n hx hb d_Integer_numberOfLeadingZeros_74 rfl (lv_at hl 0 rfl) ?_
            refine lv_iconst (v := (1 : Int32)) hx hb d_Integer_numberOfLeadingZeros_75 (by decide) ?_
            refine lv_iushr (v := (iush_ (iush_ a0 (8 : Int32)) (1 : Int32))) hx hb d_Integer_numberOfLeadingZeros_76 rfl ?_
            refine lv_isub hx hb d_Integer_numberOfLeadingZeros_77 ?_
            exact ri_ hx hb hr hk (by rw [q_Integer_numberOfLeadingZeros, if_pos c_1, if_pos c_2, if_neg c_3, if_pos c_7, if_pos c_8]) d_Integer_numberOfLeadingZeros_78
          · refine lv_iinc (v := (((31 : Int32) + (-8 : Int32)) + (-2 : Int32))) (lv' := [(1, .int (((31 : Int32) + (-8 : Int32)) + (-2 : Int32))), (0, .int (iush_ a0 (8 : Int32)))]) hx hb d_Integer_numberOfLeadingZeros_66 hl (k := 1) rfl rfl (by decide) rfl (fun ls hl => ?_)
            refine lv_iload_n hx hb d_Integer_numberOfLeadingZeros_69 rfl (lv_at hl 1 rfl) ?_
            refine lv_iconst (v := (2 : Int32)) hx hb d_Integer_numberOfLeadingZeros_70 (by decide) ?_
            refine lv_iushr (v := (iush_ (iush_ a0 (8 : Int32)) (2 : Int32))) hx hb d_Integer_numberOfLeadingZeros_71 rfl ?_
            refine lv_istore_n (lv' := [(0, .int (iush_ (iush_ a0 (8 : Int32)) (2 : Int32))), (1, .int (((31 : Int32) + (-8 : Int32)) + (-2 : Int32)))]) hx hb d_Integer_numberOfLeadingZeros_72 rfl hl (by decide) rfl (fun ls hl => ?_)
            refine lv_iload_n hx hb d_Integer_numberOfLeadingZeros_73 rfl (lv_at hl 1 rfl) ?_
            refine lv_iload_n hx hb d_Integer_numberOfLeadingZeros_74 rfl (lv_at hl 0 rfl) ?_
            refine lv_iconst (v := (1 : Int32)) hx hb d_Integer_numberOfLeadingZeros_75 (by decide) ?_
            refine lv_iushr (v := (iush_ (iush_ (iush_ a0 (8 : Int32)) (2 : Int32)) (1 : Int32))) hx hb d_Integer_numberOfLeadingZeros_76 rfl ?_
            refine lv_isub hx hb d_Integer_numberOfLeadingZeros_77 ?_
            exact ri_ hx hb hr hk (by rw [q_Integer_numberOfLeadingZeros, if_pos c_1, if_pos c_2, if_neg c_3, if_pos c_7, if_neg c_8]) d_Integer_numberOfLeadingZeros_78
        · refine lv_iinc (v := (((31 : Int32) + (-8 : Int32)) + (-4 : Int32))) (lv' := [(1, .int (((31 : Int32) + (-8 : Int32)) + (-4 : Int32))), (0, .int (iush_ a0 (8 : Int32)))]) hx hb d_Integer_numberOfLeadingZeros_54 hl (k := 1) rfl rfl (by decide) rfl (fun ls hl => ?_)
          refine lv_iload_n hx hb d_Integer_numberOfLeadingZeros_57 rfl (lv_at hl 1 rfl) ?_
          refine lv_iconst (v := (4 : Int32)) hx hb d_Integer_numberOfLeadingZeros_58 (by decide) ?_
          refine lv_iushr (v := (iush_ (iush_ a0 (8 : Int32)) (4 : Int32))) hx hb d_Integer_numberOfLeadingZeros_59 rfl ?_
          refine lv_istore_n (lv' := [(0, .int (iush_ (iush_ a0 (8 : Int32)) (4 : Int32))), (1, .int (((31 : Int32) + (-8 : Int32)) + (-4 : Int32)))]) hx hb d_Integer_numberOfLeadingZeros_60 rfl hl (by decide) rfl (fun ls hl => ?_)
          refine lv_iload_n hx hb d_Integer_numberOfLeadingZeros_61 rfl (lv_at hl 0 rfl) ?_
          refine lv_iconst (v := (4 : Int32)) hx hb d_Integer_numberOfLeadingZeros_62 (by decide) ?_
          refine lv_icmp_lt (tgt := 73) hx hb d_Integer_numberOfLeadingZeros_63 (by decide) (fun c_9 => ?_) (fun c_9 => ?_)
          · refine lv_iload_n hx hb d_Integer_numberOfLeadingZeros_73 rfl (lv_at hl 1 rfl) ?_
            refine lv_iload_n hx hb d_Integer_numberOfLeadingZeros_74 rfl (lv_at hl 0 rfl) ?_
            refine lv_iconst (v := (1 : Int32)) hx hb d_Integer_numberOfLeadingZeros_75 (by decide) ?_
            refine lv_iushr (v := (iush_ (iush_ (iush_ a0 (8 : Int32)) (4 : Int32)) (1 : Int32))) hx hb d_Integer_numberOfLeadingZeros_76 rfl ?_
            refine lv_isub hx hb d_Integer_numberOfLeadingZeros_77 ?_
            exact ri_ hx hb hr hk (by rw [q_Integer_numberOfLeadingZeros, if_pos c_1, if_pos c_2, if_neg c_3, if_neg c_7, if_pos c_9]) d_Integer_numberOfLeadingZeros_78
          · refine lv_iinc (v := ((((31 : Int32) + (-8 : Int32)) + (-4 : Int32)) + (-2 : Int32))) (lv' := [(1, .int ((((31 : Int32) + (-8 : Int32)) + (-4 : Int32)) + (-2 : Int32))), (0, .int (iush_ (iush_ a0 (8 : Int32)) (4 : Int32)))]) hx hb d_Integer_numberOfLeadingZeros_66 hl (k := 1) rfl rfl (by decide) rfl (fun ls hl => ?_)
            refine lv_iload_n hx hb d_Integer_numberOfLeadingZeros_69 rfl (lv_at hl 1 rfl) ?_
            refine lv_iconst (v := (2 : Int32)) hx hb d_Integer_numberOfLeadingZeros_70 (by decide) ?_
            refine lv_iushr (v := (iush_ (iush_ (iush_ a0 (8 : Int32)) (4 : Int32)) (2 : Int32))) hx hb d_Integer_numberOfLeadingZeros_71 rfl ?_
            refine lv_istore_n (lv' := [(0, .int (iush_ (iush_ (iush_ a0 (8 : Int32)) (4 : Int32)) (2 : Int32))), (1, .int ((((31 : Int32) + (-8 : Int32)) + (-4 : Int32)) + (-2 : Int32)))]) hx hb d_Integer_numberOfLeadingZeros_72 rfl hl (by decide) rfl (fun ls hl => ?_)
            refine lv_iload_n hx hb d_Integer_numberOfLeadingZeros_73 rfl (lv_at hl 1 rfl) ?_
            refine lv_iload_n hx hb d_Integer_numberOfLeadingZeros_74 rfl (lv_at hl 0 rfl) ?_
            refine lv_iconst (v := (1 : Int32)) hx hb d_Integer_numberOfLeadingZeros_75 (by decide) ?_
            refine lv_iushr (v := (iush_ (iush_ (iush_ (iush_ a0 (8 : Int32)) (4 : Int32)) (2 : Int32)) (1 : Int32))) hx hb d_Integer_numberOfLeadingZeros_76 rfl ?_
            refine lv_isub hx hb d_Integer_numberOfLeadingZeros_77 ?_
            exact ri_ hx hb hr hk (by rw [q_Integer_numberOfLeadingZeros, if_pos c_1, if_pos c_2, if_neg c_3, if_neg c_7, if_neg c_9]) d_Integer_numberOfLeadingZeros_78
    · refine lv_iinc (v := ((31 : Int32) + (-16 : Int32))) (lv' := [(1, .int ((31 : Int32) + (-16 : Int32))), (0, .int a0)]) hx hb d_Integer_numberOfLeadingZeros_25 hl (k := 0) rfl rfl (by decide) rfl (fun ls hl => ?_)
      refine lv_iload_n hx hb d_Integer_numberOfLeadingZeros_28 rfl (lv_at hl 1 rfl) ?_
      refine lv_bipush (v := (16 : Int32)) hx hb d_Integer_numberOfLeadingZeros_29 (by decide) ?_
      refine lv_iushr (v := (iush_ a0 (16 : Int32))) hx hb d_Integer_numberOfLeadingZeros_31 rfl ?_
      refine lv_istore_n (lv' := [(0, .int (iush_ a0 (16 : Int32))), (1, .int ((31 : Int32) + (-16 : Int32)))]) hx hb d_Integer_numberOfLeadingZeros_32 rfl hl (by decide) rfl (fun ls hl => ?_)
      refine lv_iload_n hx hb d_Integer_numberOfLeadingZeros_33 rfl (lv_at hl 0 rfl) ?_
      refine lv_sipush (v := (256 : Int32)) hx hb d_Integer_numberOfLeadingZeros_34 (by decide) ?_
      refine lv_icmp_lt (tgt := 48) hx hb d_Integer_numberOfLeadingZeros_37 (by decide) (fun c_10 => ?_) (fun c_10 => ?_)
      · refine lv_iload_n hx hb d_Integer_numberOfLeadingZeros_48 rfl (lv_at hl 0 rfl) ?_
        refine lv_bipush (v := (16 : Int32)) hx hb d_Integer_numberOfLeadingZeros_49 (by decide) ?_
        refine lv_icmp_lt (tgt := 61) hx hb d_Integer_numberOfLeadingZeros_51 (by decide) (fun c_11 => ?_) (fun c_11 => ?_)
        · refine lv_iload_n hx hb d_Integer_numberOfLeadingZeros_61 rfl (lv_at hl 0 rfl) ?_
          refine lv_iconst (v := (4 : Int32)) hx hb d_Integer_numberOfLeadingZeros_62 (by decide) ?_
          refine lv_icmp_lt (tgt := 73) hx hb d_Integer_numberOfLeadingZeros_63 (by decide) (fun c_12 => ?_) (fun c_12 => ?_)
          · refine lv_iload_n hx hb d_Integer_numberOfLeadingZeros_73 rfl (lv_at hl 1 rfl) ?_
            refine lv_iload_n hx hb d_Integer_numberOfLeadingZeros_74 rfl (lv_at hl 0 rfl) ?_
            refine lv_iconst (v := (1 : Int32)) hx hb d_Integer_numberOfLeadingZeros_75 (by decide) ?_
            refine lv_iushr (v := (iush_ (iush_ a0 (16 : Int32)) (1 : Int32))) hx hb d_Integer_numberOfLeadingZeros_76 rfl ?_
            refine lv_isub hx hb d_Integer_numberOfLeadingZeros_77 ?_
            exact ri_ hx hb hr hk (by rw [q_Integer_numberOfLeadingZeros, if_pos c_1, if_neg c_2, if_pos c_10, if_pos c_11, if_pos c_12]) d_Integer_numberOfLeadingZeros_78
          · refine lv_iinc (v := (((31 : Int32) + (-16 : Int32)) + (-2 : Int32))) (lv' := [(1, .int (((31 : Int32) + (-16 : Int32)) + (-2 : Int32))), (0, .int (iush_ a0 (16 : Int32)))]) hx hb d_Integer_numberOfLeadingZeros_66 hl (k := 1) rfl rfl (by decide) rfl (fun ls hl => ?_)
            refine lv_iload_n hx hb d_Integer_numberOfLeadingZeros_69 rfl (lv_at hl 1 rfl) ?_
            refine lv_iconst (v := (2 : Int32)) hx hb d_Integer_numberOfLeadingZeros_70 (by decide) ?_
            refine lv_iushr (v := (iush_ (iush_ a0 (16 : Int32)) (2 : Int32))) hx hb d_Integer_numberOfLeadingZeros_71 rfl ?_
            refine lv_istore_n (lv' := [(0, .int (iush_ (iush_ a0 (16 : Int32)) (2 : Int32))), (1, .int (((31 : Int32) + (-16 : Int32)) + (-2 : Int32)))]) hx hb d_Integer_numberOfLeadingZeros_72 rfl hl (by decide) rfl (fun ls hl => ?_)
            refine lv_iload_n hx hb d_Integer_numberOfLeadingZeros_73 rfl (lv_at hl 1 rfl) ?_
            refine lv_iload_n hx hb d_Integer_numberOfLeadingZeros_74 rfl (lv_at hl 0 rfl) ?_
            refine lv_iconst (v := (1 : Int32)) hx hb d_Integer_numberOfLeadingZeros_75 (by decide) ?_
            refine lv_iushr (v := (iush_ (iush_ (iush_ a0 (16 : Int32)) (2 : Int32)) (1 : Int32))) hx hb d_Integer_numberOfLeadingZeros_76 rfl ?_
            refine lv_isub hx hb d_Integer_numberOfLeadingZeros_77 ?_
            exact ri_ hx hb hr hk (by rw [q_Integer_numberOfLeadingZeros, if_pos c_1, if_neg c_2, if_pos c_10, if_pos c_11, if_neg c_12]) d_Integer_numberOfLeadingZeros_78
        · refine lv_iinc (v := (((31 : Int32) + (-16 : Int32)) + (-4 : Int32))) (lv' := [(1, .int (((31 : Int32) + (-16 : Int32)) + (-4 : Int32))), (0, .int (iush_ a0 (16 : Int32)))]) hx hb d_Integer_numberOfLeadingZeros_54 hl (k := 1) rfl rfl (by decide) rfl (fun ls hl => ?_)
          refine lv_iload_n hx hb d_Integer_numberOfLeadingZeros_57 rfl (lv_at hl 1 rfl) ?_
          refine lv_iconst (v := (4 : Int32)) hx hb d_Integer_numberOfLeadingZeros_58 (by decide) ?_
          refine lv_iushr (v := (iush_ (iush_ a0 (16 : Int32)) (4 : Int32))) hx hb d_Integer_numberOfLeadingZeros_59 rfl ?_
          refine lv_istore_n (lv' := [(0, .int (iush_ (iush_ a0 (16 : Int32)) (4 : Int32))), (1, .int (((31 : Int32) + (-16 : Int32)) + (-4 : Int32)))]) hx hb d_Integer_numberOfLeadingZeros_60 rfl hl (by decide) rfl (fun ls hl => ?_)
          refine lv_iload_n hx hb d_Integer_numberOfLeadingZeros_61 rfl (lv_at hl 0 rfl) ?_
          refine lv_iconst (v := (4 : Int32)) hx hb d_Integer_numberOfLeadingZeros_62 (by decide) ?_
          refine lv_icmp_lt (tgt := 73) hx hb d_Integer_numberOfLeadingZeros_63 (by decide) (fun c_13 => ?_) (fun c_13 => ?_)
          · refine lv_iload_n hx hb d_Integer_numberOfLeadingZeros_73 rfl (lv_at hl 1 rfl) ?_
            refine lv_iload_n hx hb d_Integer_numberOfLeadingZeros_74 rfl (lv_at hl 0 rfl) ?_
            refine lv_iconst (v := (1 : Int32)) hx hb d_Integer_numberOfLeadingZeros_75 (by decide) ?_
            refine lv_iushr (v := (iush_ (iush_ (iush_ a0 (16 : Int32)) (4 : Int32)) (1 : Int32))) hx hb d_Integer_numberOfLeadingZeros_76 rfl ?_
            refine lv_isub hx hb d_Integer_numberOfLeadingZeros_77 ?_
            exact ri_ hx hb hr hk (by rw [q_Integer_numberOfLeadingZeros, if_pos c_1, if_neg c_2, if_pos c_10, if_neg c_11, if_pos c_13]) d_Integer_numberOfLeadingZeros_78
          · refine lv_iinc (v := ((((31 : Int32) + (-16 : Int32)) + (-4 : Int32)) + (-2 : Int32))) (lv' := [(1, .int ((((31 : Int32) + (-16 : Int32)) + (-4 : Int32)) + (-2 : Int32))), (0, .int (iush_ (iush_ a0 (16 : Int32)) (4 : Int32)))]) hx hb d_Integer_numberOfLeadingZeros_66 hl (k := 1) rfl rfl (by decide) rfl (fun ls hl => ?_)
            refine lv_iload_n hx hb d_Integer_numberOfLeadingZeros_69 rfl (lv_at hl 1 rfl) ?_
            refine lv_iconst (v := (2 : Int32)) hx hb d_Integer_numberOfLeadingZeros_70 (by decide) ?_
            refine lv_iushr (v := (iush_ (iush_ (iush_ a0 (16 : Int32)) (4 : Int32)) (2 : Int32))) hx hb d_Integer_numberOfLeadingZeros_71 rfl ?_
            refine lv_istore_n (lv' := [(0, .int (iush_ (iush_ (iush_ a0 (16 : Int32)) (4 : Int32)) (2 : Int32))), (1, .int ((((31 : Int32) + (-16 : Int32)) + (-4 : Int32)) + (-2 : Int32)))]) hx hb d_Integer_numberOfLeadingZeros_72 rfl hl (by decide) rfl (fun ls hl => ?_)
            refine lv_iload_n hx hb d_Integer_numberOfLeadingZeros_73 rfl (lv_at hl 1 rfl) ?_
            refine lv_iload_n hx hb d_Integer_numberOfLeadingZeros_74 rfl (lv_at hl 0 rfl) ?_
            refine lv_iconst (v := (1 : Int32)) hx hb d_Integer_numberOfLeadingZeros_75 (by decide) ?_
            refine lv_iushr (v := (iush_ (iush_ (iush_ (iush_ a0 (16 : Int32)) (4 : Int32)) (2 : Int32)) (1 : Int32))) hx hb d_Integer_numberOfLeadingZeros_76 rfl ?_
            refine lv_isub hx hb d_Integer_numberOfLeadingZeros_77 ?_
            exact ri_ hx hb hr hk (by rw [q_Integer_numberOfLeadingZeros, if_pos c_1, if_neg c_2, if_pos c_10, if_neg c_11, if_neg c_13]) d_Integer_numberOfLeadingZeros_78
      · refine lv_iinc (v := (((31 : Int32) + (-16 : Int32)) + (-8 : Int32))) (lv' := [(1, .int (((31 : Int32) + (-16 : Int32)) + (-8 : Int32))), (0, .int (iush_ a0 (16 : Int32)))]) hx hb d_Integer_numberOfLeadingZeros_40 hl (k := 1) rfl rfl (by decide) rfl (fun ls hl => ?_)
        refine lv_iload_n hx hb d_Integer_numberOfLeadingZeros_43 rfl (lv_at hl 1 rfl) ?_
        refine lv_bipush (v := (8 : Int32)) hx hb d_Integer_numberOfLeadingZeros_44 (by decide) ?_
        refine lv_iushr (v := (iush_ (iush_ a0 (16 : Int32)) (8 : Int32))) hx hb d_Integer_numberOfLeadingZeros_46 rfl ?_
        refine lv_istore_n (lv' := [(0, .int (iush_ (iush_ a0 (16 : Int32)) (8 : Int32))), (1, .int (((31 : Int32) + (-16 : Int32)) + (-8 : Int32)))]) hx hb d_Integer_numberOfLeadingZeros_47 rfl hl (by decide) rfl (fun ls hl => ?_)
        refine lv_iload_n hx hb d_Integer_numberOfLeadingZeros_48 rfl (lv_at hl 0 rfl) ?_
        refine lv_bipush (v := (16 : Int32)) hx hb d_Integer_numberOfLeadingZeros_49 (by decide) ?_
        refine lv_icmp_lt (tgt := 61) hx hb d_Integer_numberOfLeadingZeros_51 (by decide) (fun c_14 => ?_) (fun c_14 => ?_)
        · refine lv_iload_n hx hb d_Integer_numberOfLeadingZeros_61 rfl (lv_at hl 0 rfl) ?_
          refine lv_iconst (v := (4 : Int32)) hx hb d_Integer_numberOfLeadingZeros_62 (by decide) ?_
          refine lv_icmp_lt (tgt := 73) hx hb d_Integer_numberOfLeadingZeros_63 (by decide) (fun c_15 => ?_) (fun c_15 => ?_)
          · refine lv_iload_n hx hb d_Integer_numberOfLeadingZeros_73 rfl (lv_at hl 1 rfl) ?_
            refine lv_iload_n hx hb d_Integer_numberOfLeadingZeros_74 rfl (lv_at hl 0 rfl) ?_
            refine lv_iconst (v := (1 : Int32)) hx hb d_Integer_numberOfLeadingZeros_75 (by decide) ?_
            refine lv_iushr (v := (iush_ (iush_ (iush_ a0 (16 : Int32)) (8 : Int32)) (1 : Int32))) hx hb d_Integer_numberOfLeadingZeros_76 rfl ?_
            refine lv_isub hx hb d_Integer_numberOfLeadingZeros_77 ?_
            exact ri_ hx hb hr hk (by rw [q_Integer_numberOfLeadingZeros, if_pos c_1, if_neg c_2, if_neg c_10, if_pos c_14, if_pos c_15]) d_Integer_numberOfLeadingZeros_78
          · refine lv_iinc (v := ((((31 : Int32) + (-16 : Int32)) + (-8 : Int32)) + (-2 : Int32))) (lv' := [(1, .int ((((31 : Int32) + (-16 : Int32)) + (-8 : Int32)) + (-2 : Int32))), (0, .int (iush_ (iush_ a0 (16 : Int32)) (8 : Int32)))]) hx hb d_Integer_numberOfLeadingZeros_66 hl (k := 1) rfl rfl (by decide) rfl (fun ls hl => ?_)
            refine lv_iload_n hx hb d_Integer_numberOfLeadingZeros_69 rfl (lv_at hl 1 rfl) ?_
            refine lv_iconst (v := (2 : Int32)) hx hb d_Integer_numberOfLeadingZeros_70 (by decide) ?_
            refine lv_iushr (v := (iush_ (iush_ (iush_ a0 (16 : Int32)) (8 : Int32)) (2 : Int32))) hx hb d_Integer_numberOfLeadingZeros_71 rfl ?_
            refine lv_istore_n (lv' := [(0, .int (iush_ (iush_ (iush_ a0 (16 : Int32)) (8 : Int32)) (2 : Int32))), (1, .int ((((31 : Int32) + (-16 : Int32)) + (-8 : Int32)) + (-2 : Int32)))]) hx hb d_Integer_numberOfLeadingZeros_72 rfl hl (by decide) rfl (fun ls hl => ?_)
            refine lv_iload_n hx hb d_Integer_numberOfLeadingZeros_73 rfl (lv_at hl 1 rfl) ?_
            refine lv_iload_n hx hb d_Integer_numberOfLeadingZeros_74 rfl (lv_at hl 0 rfl) ?_
            refine lv_iconst (v := (1 : Int32)) hx hb d_Integer_numberOfLeadingZeros_75 (by decide) ?_
            refine lv_iushr (v := (iush_ (iush_ (iush_ (iush_ a0 (16 : Int32)) (8 : Int32)) (2 : Int32)) (1 : Int32))) hx hb d_Integer_numberOfLeadingZeros_76 rfl ?_
            refine lv_isub hx hb d_Integer_numberOfLeadingZeros_77 ?_
            exact ri_ hx hb hr hk (by rw [q_Integer_numberOfLeadingZeros, if_pos c_1, if_neg c_2, if_neg c_10, if_pos c_14, if_neg c_15]) d_Integer_numberOfLeadingZeros_78
        · refine lv_iinc (v := ((((31 : Int32) + (-16 : Int32)) + (-8 : Int32)) + (-4 : Int32))) (lv' := [(1, .int ((((31 : Int32) + (-16 : Int32)) + (-8 : Int32)) + (-4 : Int32))), (0, .int (iush_ (iush_ a0 (16 : Int32)) (8 : Int32)))]) hx hb d_Integer_numberOfLeadingZeros_54 hl (k := 1) rfl rfl (by decide) rfl (fun ls hl => ?_)
          refine lv_iload_n hx hb d_Integer_numberOfLeadingZeros_57 rfl (lv_at hl 1 rfl) ?_
          refine lv_iconst (v := (4 : Int32)) hx hb d_Integer_numberOfLeadingZeros_58 (by decide) ?_
          refine lv_iushr (v := (iush_ (iush_ (iush_ a0 (16 : Int32)) (8 : Int32)) (4 : Int32))) hx hb d_Integer_numberOfLeadingZeros_59 rfl ?_
          refine lv_istore_n (lv' := [(0, .int (iush_ (iush_ (iush_ a0 (16 : Int32)) (8 : Int32)) (4 : Int32))), (1, .int ((((31 : Int32) + (-16 : Int32)) + (-8 : Int32)) + (-4 : Int32)))]) hx hb d_Integer_numberOfLeadingZeros_60 rfl hl (by decide) rfl (fun ls hl => ?_)
          refine lv_iload_n hx hb d_Integer_numberOfLeadingZeros_61 rfl (lv_at hl 0 rfl) ?_
          refine lv_iconst (v := (4 : Int32)) hx hb d_Integer_numberOfLeadingZeros_62 (by decide) ?_
          refine lv_icmp_lt (tgt := 73) hx hb d_Integer_numberOfLeadingZeros_63 (by decide) (fun c_16 => ?_) (fun c_16 => ?_)
          · refine lv_iload_n hx hb d_Integer_numberOfLeadingZeros_73 rfl (lv_at hl 1 rfl) ?_
            refine lv_iload_n hx hb d_Integer_numberOfLeadingZeros_74 rfl (lv_at hl 0 rfl) ?_
            refine lv_iconst (v := (1 : Int32)) hx hb d_Integer_numberOfLeadingZeros_75 (by decide) ?_
            refine lv_iushr (v := (iush_ (iush_ (iush_ (iush_ a0 (16 : Int32)) (8 : Int32)) (4 : Int32)) (1 : Int32))) hx hb d_Integer_numberOfLeadingZeros_76 rfl ?_
            refine lv_isub hx hb d_Integer_numberOfLeadingZeros_77 ?_
            exact ri_ hx hb hr hk (by rw [q_Integer_numberOfLeadingZeros, if_pos c_1, if_neg c_2, if_neg c_10, if_neg c_14, if_pos c_16]) d_Integer_numberOfLeadingZeros_78
          · refine lv_iinc (v := (((((31 : Int32) + (-16 : Int32)) + (-8 : Int32)) + (-4 : Int32)) + (-2 : Int32))) (lv' := [(1, .int (((((31 : Int32) + (-16 : Int32)) + (-8 : Int32)) + (-4 : Int32)) + (-2 : Int32))), (0, .int (iush_ (iush_ (iush_ a0 (16 : Int32)) (8 : Int32)) (4 : Int32)))]) hx hb d_Integer_numberOfLeadingZeros_66 hl (k := 1) rfl rfl (by decide) rfl (fun ls hl => ?_)
            refine lv_iload_n hx hb d_Integer_numberOfLeadingZeros_69 rfl (lv_at hl 1 rfl) ?_
            refine lv_iconst (v := (2 : Int32)) hx hb d_Integer_numberOfLeadingZeros_70 (by decide) ?_
            refine lv_iushr (v := (iush_ (iush_ (iush_ (iush_ a0 (16 : Int32)) (8 : Int32)) (4 : Int32)) (2 : Int32))) hx hb d_Integer_numberOfLeadingZeros_71 rfl ?_
            refine lv_istore_n (lv' := [(0, .int (iush_ (iush_ (iush_ (iush_ a0 (16 : Int32)) (8 : Int32)) (4 : Int32)) (2 : Int32))), (1, .int (((((31 : Int32) + (-16 : Int32)) + (-8 : Int32)) + (-4 : Int32)) + (-2 : Int32)))]) hx hb d_Integer_numberOfLeadingZeros_72 rfl hl (by decide) rfl (fun ls hl => ?_)
            refine lv_iload_n hx hb d_Integer_numberOfLeadingZeros_73 rfl (lv_at hl 1 rfl) ?_
            refine lv_iload_n hx hb d_Integer_numberOfLeadingZeros_74 rfl (lv_at hl 0 rfl) ?_
            refine lv_iconst (v := (1 : Int32)) hx hb d_Integer_numberOfLeadingZeros_75 (by decide) ?_
            refine lv_iushr (v := (iush_ (iush_ (iush_ (iush_ (iush_ a0 (16 : Int32)) (8 : Int32)) (4 : Int32)) (2 : Int32)) (1 : Int32))) hx hb d_Integer_numberOfLeadingZeros_76 rfl ?_
            refine lv_isub hx hb d_Integer_numberOfLeadingZeros_77 ?_
            exact ri_ hx hb hr hk (by rw [q_Integer_numberOfLeadingZeros, if_pos c_1, if_neg c_2, if_neg c_10, if_neg c_14, if_neg c_16]) d_Integer_numberOfLeadingZeros_78
  · refine lv_iload_n hx hb d_Integer_numberOfLeadingZeros_4 rfl (lv_at hl 0 rfl) ?_
    refine lv_if_ne (tgt := 13) hx hb d_Integer_numberOfLeadingZeros_5 (by decide) (fun c_17 => ?_) (fun c_17 => ?_)
    · refine lv_iconst (v := (0 : Int32)) hx hb d_Integer_numberOfLeadingZeros_13 (by decide) ?_
      exact ri_ hx hb hr hk (by rw [q_Integer_numberOfLeadingZeros, if_neg c_1, if_neg c_17]) d_Integer_numberOfLeadingZeros_14
    · refine lv_bipush (v := (32 : Int32)) hx hb d_Integer_numberOfLeadingZeros_8 (by decide) ?_
      refine lv_goto (tgt := 14) hx hb d_Integer_numberOfLeadingZeros_10 (by decide) ?_
      exact ri_ hx hb hr hk (by rw [q_Integer_numberOfLeadingZeros, if_neg c_1, if_pos c_17]) d_Integer_numberOfLeadingZeros_14
def q_Long_numberOfLeadingZeros (a0 : Int64) : Int32 :=
  if (Int64.toInt32 (ush_ a0 (32 : Int32))) = 0 then
    ((32 : Int32) + (q_Integer_numberOfLeadingZeros (Int64.toInt32 a0)))
  else
    (q_Integer_numberOfLeadingZeros (Int64.toInt32 (ush_ a0 (32 : Int32))))
theorem kB_Long_numberOfLeadingZeros : SB y_Long_numberOfLeadingZeros b_Long_numberOfLeadingZeros 3 (some .int) 1 := ⟨wt_207, wt_206, wt_46, by decide +kernel⟩
set_option maxHeartbeats 4000000 in
set_option maxRecDepth 100000 in
theorem c_Long_numberOfLeadingZeros (l : Launch) (A : Nat → Prop) (ad : Nat → Nat) (a0 : Int64) : Met l y_Long_numberOfLeadingZeros (Cond.code y_Long_numberOfLeadingZeros b_Long_numberOfLeadingZeros 3 (some .int) :: BT) ({ frames := 1, cells := 0, slots := 0, locals := 21 }) (PC A ad [.long a0]) (vp_Si (fun r => r = q_Long_numberOfLeadingZeros a0)) 0 0 (fun _ => False) := by
  refine pm_ (by decide +kernel) (Nat.le_of_ble_eq_true rfl) ?_
  intro p e s m below meth c hq hr hk ls hl
  have hx := hq.1
  have hb := hq.2.1
  have hts := hq.2.2.2.2.1
  have hl : lv_has ls 3 [(0, .long a0)] := hl
  refine lv_lload_n hx hb d_Long_numberOfLeadingZeros_0 rfl (lv_at hl 0 rfl) ?_
  refine lv_bipush (v := (32 : Int32)) hx hb d_Long_numberOfLeadingZeros_1 (by decide) ?_
  refine lv_lushr (v := (ush_ a0 (32 : Int32))) hx hb d_Long_numberOfLeadingZeros_3 rfl ?_
  refine lv_l2i (v := (Int64.toInt32 (ush_ a0 (32 : Int32)))) hx hb d_Long_numberOfLeadingZeros_4 rfl ?_
  refine lv_istore_n (lv' := [(2, .int (Int64.toInt32 (ush_ a0 (32 : Int32)))), (0, .long a0)]) hx hb d_Long_numberOfLeadingZeros_5 rfl hl (by decide) rfl (fun ls hl => ?_)
  refine lv_iload_n hx hb d_Long_numberOfLeadingZeros_6 rfl (lv_at hl 0 rfl) ?_
  refine lv_if_ne (tgt := 21) hx hb d_Long_numberOfLeadingZeros_7 (by decide) (fun c_1 => ?_) (fun c_1 => ?_)
  · refine lv_iload_n hx hb d_Long_numberOfLeadingZeros_21 rfl (lv_at hl 0 rfl) ?_
    refine si_ (As := [.int (Int64.toInt32 (ush_ a0 (32 : Int32)))]) (rest := []) hq (c_Integer_numberOfLeadingZeros l A ad (Int64.toInt32 (ush_ a0 (32 : Int32)))) kB_Integer_numberOfLeadingZeros wt_208 ⟨rfl, rfl, Nat.le_of_ble_eq_true rfl, Nat.le_of_ble_eq_true rfl⟩ rfl hl.1 rfl (Nat.le_of_ble_eq_true rfl) d_Long_numberOfLeadingZeros_22 ⟨Nat.zero_le _, Nat.zero_le _⟩ ?_
    exact ri_ hx hb hr hk (by rw [q_Long_numberOfLeadingZeros, if_neg c_1]) d_Long_numberOfLeadingZeros_25
  · refine lv_bipush (v := (32 : Int32)) hx hb d_Long_numberOfLeadingZeros_10 (by decide) ?_
    refine lv_lload_n hx hb d_Long_numberOfLeadingZeros_12 rfl (lv_at hl 1 rfl) ?_
    refine lv_l2i (v := (Int64.toInt32 a0)) hx hb d_Long_numberOfLeadingZeros_13 rfl ?_
    refine si_ (As := [.int (Int64.toInt32 a0)]) (rest := [.int (32 : Int32)]) hq (c_Integer_numberOfLeadingZeros l A ad (Int64.toInt32 a0)) kB_Integer_numberOfLeadingZeros wt_208 ⟨rfl, rfl, Nat.le_of_ble_eq_true rfl, Nat.le_of_ble_eq_true rfl⟩ rfl hl.1 rfl (Nat.le_of_ble_eq_true rfl) d_Long_numberOfLeadingZeros_14 ⟨Nat.zero_le _, Nat.zero_le _⟩ ?_
    refine lv_iadd hx hb d_Long_numberOfLeadingZeros_17 ?_
    refine lv_goto (tgt := 25) hx hb d_Long_numberOfLeadingZeros_18 (by decide) ?_
    exact ri_ hx hb hr hk (by rw [q_Long_numberOfLeadingZeros, if_pos c_1]) d_Long_numberOfLeadingZeros_25
def q_Math_max (a0 : Int32) (a1 : Int32) : Int32 :=
  if a0 < a1 then
    a1
  else
    a0
theorem kB_Math_max : SB y_Math_max b_Math_max 2 (some .int) 2 := ⟨wt_214, wt_213, wt_48, by decide +kernel⟩
set_option maxHeartbeats 4000000 in
set_option maxRecDepth 100000 in
theorem c_Math_max (l : Launch) (A : Nat → Prop) (ad : Nat → Nat) (a0 : Int32) (a1 : Int32) : Met l y_Math_max (Cond.code y_Math_max b_Math_max 2 (some .int) :: BT) ({ frames := 0, cells := 0, slots := 0, locals := 0 }) (PC A ad [.int a0, .int a1]) (vp_Si (fun r => r = q_Math_max a0 a1)) 0 0 (fun _ => False) := by
  refine pm_ (by decide +kernel) (Nat.le_of_ble_eq_true rfl) ?_
  intro p e s m below meth c hq hr hk ls hl
  have hx := hq.1
  have hb := hq.2.1
  have hts := hq.2.2.2.2.1
  have hl : lv_has ls 2 [(0, .int a0), (1, .int a1)] := hl
  refine lv_iload_n hx hb d_Math_max_0 rfl (lv_at hl 0 rfl) ?_
  refine lv_iload_n hx hb d_Math_max_1 rfl (lv_at hl 1 rfl) ?_
  refine lv_icmp_lt (tgt := 9) hx hb d_Math_max_2 (by decide) (fun c_1 => ?_) (fun c_1 => ?_)
  · refine lv_iload_n hx hb d_Math_max_9 rfl (lv_at hl 1 rfl) ?_
    exact ri_ hx hb hr hk (by rw [q_Math_max, if_pos c_1]) d_Math_max_10
  · refine lv_iload_n hx hb d_Math_max_5 rfl (lv_at hl 0 rfl) ?_
    refine lv_goto (tgt := 10) hx hb d_Math_max_6 (by decide) ?_
    exact ri_ hx hb hr hk (by rw [q_Math_max, if_neg c_1]) d_Math_max_10
def q_Long_compare (a0 : Int64) (a1 : Int64) : Int32 :=
  if a1 ≤ a0 then
    if a0 = a1 then
      (0 : Int32)
    else
      (1 : Int32)
  else
    (-1 : Int32)
theorem kB_Long_compare : SB y_Long_compare b_Long_compare 4 (some .int) 2 := ⟨wt_298, wt_297, wt_46, by decide +kernel⟩
set_option maxHeartbeats 4000000 in
set_option maxRecDepth 100000 in
theorem c_Long_compare (l : Launch) (A : Nat → Prop) (ad : Nat → Nat) (a0 : Int64) (a1 : Int64) : Met l y_Long_compare (Cond.code y_Long_compare b_Long_compare 4 (some .int) :: BT) ({ frames := 0, cells := 0, slots := 0, locals := 0 }) (PC A ad [.long a0, .long a1]) (vp_Si (fun r => r = q_Long_compare a0 a1)) 0 0 (fun _ => False) := by
  refine pm_ (by decide +kernel) (Nat.le_of_ble_eq_true rfl) ?_
  intro p e s m below meth c hq hr hk ls hl
  have hx := hq.1
  have hb := hq.2.1
  have hts := hq.2.2.2.2.1
  have hl : lv_has ls 4 [(0, .long a0), (2, .long a1)] := hl
  refine lv_lload_n hx hb d_Long_compare_0 rfl (lv_at hl 0 rfl) ?_
  refine lv_lload_n hx hb d_Long_compare_1 rfl (lv_at hl 1 rfl) ?_
  refine W.lcmp hx hb d_Long_compare_2 ?_
  refine lv_if_ge (tgt := 10) hx hb d_Long_compare_3 (by decide) (fun c_1 => ?_) (fun c_1 => ?_)
  · rw [lg_cmp_ge] at c_1
    refine lv_lload_n hx hb d_Long_compare_10 rfl (lv_at hl 0 rfl) ?_
    refine lv_lload_n hx hb d_Long_compare_11 rfl (lv_at hl 1 rfl) ?_
    refine W.lcmp hx hb d_Long_compare_12 ?_
    refine lv_if_ne (tgt := 20) hx hb d_Long_compare_13 (by decide) (fun c_2 => ?_) (fun c_2 => ?_)
    · rw [lg_cmp_eq] at c_2
      refine lv_iconst (v := (1 : Int32)) hx hb d_Long_compare_20 (by decide) ?_
      exact ri_ hx hb hr hk (by rw [q_Long_compare, if_pos c_1, if_neg c_2]) d_Long_compare_21
    · rw [lg_cmp_eq] at c_2
      refine lv_iconst (v := (0 : Int32)) hx hb d_Long_compare_16 (by decide) ?_
      refine lv_goto (tgt := 21) hx hb d_Long_compare_17 (by decide) ?_
      exact ri_ hx hb hr hk (by rw [q_Long_compare, if_pos c_1, if_pos c_2]) d_Long_compare_21
  · rw [lg_cmp_ge] at c_1
    refine lv_iconst (v := (-1 : Int32)) hx hb d_Long_compare_6 (by decide) ?_
    refine lv_goto (tgt := 21) hx hb d_Long_compare_7 (by decide) ?_
    exact ri_ hx hb hr hk (by rw [q_Long_compare, if_neg c_1]) d_Long_compare_21
def q_Long_compareUnsigned (a0 : Int64) (a1 : Int64) : Int32 :=
  (q_Long_compare (a0 + (-9223372036854775808 : Int64)) (a1 + (-9223372036854775808 : Int64)))
theorem kB_Long_compareUnsigned : SB y_Long_compareUnsigned b_Long_compareUnsigned 4 (some .int) 2 := ⟨wt_294, wt_293, wt_46, by decide +kernel⟩
set_option maxHeartbeats 4000000 in
set_option maxRecDepth 100000 in
theorem c_Long_compareUnsigned (l : Launch) (A : Nat → Prop) (ad : Nat → Nat) (a0 : Int64) (a1 : Int64) : Met l y_Long_compareUnsigned (Cond.code y_Long_compareUnsigned b_Long_compareUnsigned 4 (some .int) :: BT) ({ frames := 1, cells := 0, slots := 0, locals := 23 }) (PC A ad [.long a0, .long a1]) (vp_Si (fun r => r = q_Long_compareUnsigned a0 a1)) 0 0 (fun _ => False) := by
  refine pm_ (by decide +kernel) (Nat.le_of_ble_eq_true rfl) ?_
  intro p e s m below meth c hq hr hk ls hl
  have hx := hq.1
  have hb := hq.2.1
  have hts := hq.2.2.2.2.1
  have hl : lv_has ls 4 [(0, .long a0), (2, .long a1)] := hl
  refine lv_lload_n hx hb d_Long_compareUnsigned_0 rfl (lv_at hl 0 rfl) ?_
  refine lv_ldc2 (v := (-9223372036854775808 : Int64)) hx hb hq.2.2.2.1 (hts _ wt_295) d_Long_compareUnsigned_1 ?_
  refine lv_ladd hx hb d_Long_compareUnsigned_4 ?_
  refine lv_lload_n hx hb d_Long_compareUnsigned_5 rfl (lv_at hl 1 rfl) ?_
  refine lv_ldc2 (v := (-9223372036854775808 : Int64)) hx hb hq.2.2.2.1 (hts _ wt_295) d_Long_compareUnsigned_6 ?_
  refine lv_ladd hx hb d_Long_compareUnsigned_9 ?_
  refine si_ (As := [.long (a0 + (-9223372036854775808 : Int64)), .long (a1 + (-9223372036854775808 : Int64))]) (rest := []) hq (c_Long_compare l A ad (a0 + (-9223372036854775808 : Int64)) (a1 + (-9223372036854775808 : Int64))) kB_Long_compare wt_296 ⟨rfl, rfl, Nat.le_of_ble_eq_true rfl, Nat.le_of_ble_eq_true rfl⟩ rfl hl.1 rfl (Nat.le_of_ble_eq_true rfl) d_Long_compareUnsigned_10 ⟨Nat.zero_le _, Nat.zero_le _⟩ ?_
  exact ri_ hx hb hr hk (by rw [q_Long_compareUnsigned]) d_Long_compareUnsigned_13
def q_Integer_numberOfTrailingZeros (a0 : Int32) : Int32 :=
  if 0 < ((a0 ^^^ (-1 : Int32)) &&& (a0 - (1 : Int32))) then
    if ((a0 ^^^ (-1 : Int32)) &&& (a0 - (1 : Int32))) ≤ (65536 : Int32) then
      if ((a0 ^^^ (-1 : Int32)) &&& (a0 - (1 : Int32))) ≤ (256 : Int32) then
        if ((a0 ^^^ (-1 : Int32)) &&& (a0 - (1 : Int32))) ≤ (16 : Int32) then
          if ((a0 ^^^ (-1 : Int32)) &&& (a0 - (1 : Int32))) ≤ (4 : Int32) then
            ((1 : Int32) + (iush_ ((a0 ^^^ (-1 : Int32)) &&& (a0 - (1 : Int32))) (1 : Int32)))
          else
            (((1 : Int32) + (2 : Int32)) + (iush_ (iush_ ((a0 ^^^ (-1 : Int32)) &&& (a0 - (1 : Int32))) (2 : Int32)) (1 : Int32)))
        else
          if (iush_ ((a0 ^^^ (-1 : Int32)) &&& (a0 - (1 : Int32))) (4 : Int32)) ≤ (4 : Int32) then
            (((1 : Int32) + (4 : Int32)) + (iush_ (iush_ ((a0 ^^^ (-1 : Int32)) &&& (a0 - (1 : Int32))) (4 : Int32)) (1 : Int32)))
          else
            ((((1 : Int32) + (4 : Int32)) + (2 : Int32)) + (iush_ (iush_ (iush_ ((a0 ^^^ (-1 : Int32)) &&& (a0 - (1 : Int32))) (4 : Int32)) (2 : Int32)) (1 : Int32)))
      else
        if (iush_ ((a0 ^^^ (-1 : Int32)) &&& (a0 - (1 : Int32))) (8 : Int32)) ≤ (16 : Int32) then
          if (iush_ ((a0 ^^^ (-1 : Int32)) &&& (a0 - (1 : Int32))) (8 : Int32)) ≤ (4 : Int32) then
            (((1 : Int32) + (8 : Int32)) + (iush_ (iush_ ((a0 ^^^ (-1 : Int32)) &&& (a0 - (1 : Int32))) (8 : Int32)) (1 : Int32)))
          else
            ((((1 : Int32) + (8 : Int32)) + (2 : Int32)) + (iush_ (iush_ (iush_ ((a0 ^^^ (-1 : Int32)) &&& (a0 - (1 : Int32))) (8 : Int32)) (2 : Int32)) (1 : Int32)))
        else
          if (iush_ (iush_ ((a0 ^^^ (-1 : Int32)) &&& (a0 - (1 : Int32))) (8 : Int32)) (4 : Int32)) ≤ (4 : Int32) then
            ((((1 : Int32) + (8 : Int32)) + (4 : Int32)) + (iush_ (iush_ (iush_ ((a0 ^^^ (-1 : Int32)) &&& (a0 - (1 : Int32))) (8 : Int32)) (4 : Int32)) (1 : Int32)))
          else
            (((((1 : Int32) + (8 : Int32)) + (4 : Int32)) + (2 : Int32)) + (iush_ (iush_ (iush_ (iush_ ((a0 ^^^ (-1 : Int32)) &&& (a0 - (1 : Int32))) (8 : Int32)) (4 : Int32)) (2 : Int32)) (1 : Int32)))
    else
      if (iush_ ((a0 ^^^ (-1 : Int32)) &&& (a0 - (1 : Int32))) (16 : Int32)) ≤ (256 : Int32) then
        if (iush_ ((a0 ^^^ (-1 : Int32)) &&& (a0 - (1 : Int32))) (16 : Int32)) ≤ (16 : Int32) then
          if (iush_ ((a0 ^^^ (-1 : Int32)) &&& (a0 - (1 : Int32))) (16 : Int32)) ≤ (4 : Int32) then
            (((1 : Int32) + (16 : Int32)) + (iush_ (iush_ ((a0 ^^^ (-1 : Int32)) &&& (a0 - (1 : Int32))) (16 : Int32)) (1 : Int32)))
          else
            ((((1 : Int32) + (16 : Int32)) + (2 : Int32)) + (iush_ (iush_ (iush_ ((a0 ^^^ (-1 : Int32)) &&& (a0 - (1 : Int32))) (16 : Int32)) (2 : Int32)) (1 : Int32)))
        else
          if (iush_ (iush_ ((a0 ^^^ (-1 : Int32)) &&& (a0 - (1 : Int32))) (16 : Int32)) (4 : Int32)) ≤ (4 : Int32) then
            ((((1 : Int32) + (16 : Int32)) + (4 : Int32)) + (iush_ (iush_ (iush_ ((a0 ^^^ (-1 : Int32)) &&& (a0 - (1 : Int32))) (16 : Int32)) (4 : Int32)) (1 : Int32)))
          else
            (((((1 : Int32) + (16 : Int32)) + (4 : Int32)) + (2 : Int32)) + (iush_ (iush_ (iush_ (iush_ ((a0 ^^^ (-1 : Int32)) &&& (a0 - (1 : Int32))) (16 : Int32)) (4 : Int32)) (2 : Int32)) (1 : Int32)))
      else
        if (iush_ (iush_ ((a0 ^^^ (-1 : Int32)) &&& (a0 - (1 : Int32))) (16 : Int32)) (8 : Int32)) ≤ (16 : Int32) then
          if (iush_ (iush_ ((a0 ^^^ (-1 : Int32)) &&& (a0 - (1 : Int32))) (16 : Int32)) (8 : Int32)) ≤ (4 : Int32) then
            ((((1 : Int32) + (16 : Int32)) + (8 : Int32)) + (iush_ (iush_ (iush_ ((a0 ^^^ (-1 : Int32)) &&& (a0 - (1 : Int32))) (16 : Int32)) (8 : Int32)) (1 : Int32)))
          else
            (((((1 : Int32) + (16 : Int32)) + (8 : Int32)) + (2 : Int32)) + (iush_ (iush_ (iush_ (iush_ ((a0 ^^^ (-1 : Int32)) &&& (a0 - (1 : Int32))) (16 : Int32)) (8 : Int32)) (2 : Int32)) (1 : Int32)))
        else
          if (iush_ (iush_ (iush_ ((a0 ^^^ (-1 : Int32)) &&& (a0 - (1 : Int32))) (16 : Int32)) (8 : Int32)) (4 : Int32)) ≤ (4 : Int32) then
            (((((1 : Int32) + (16 : Int32)) + (8 : Int32)) + (4 : Int32)) + (iush_ (iush_ (iush_ (iush_ ((a0 ^^^ (-1 : Int32)) &&& (a0 - (1 : Int32))) (16 : Int32)) (8 : Int32)) (4 : Int32)) (1 : Int32)))
          else
            ((((((1 : Int32) + (16 : Int32)) + (8 : Int32)) + (4 : Int32)) + (2 : Int32)) + (iush_ (iush_ (iush_ (iush_ (iush_ ((a0 ^^^ (-1 : Int32)) &&& (a0 - (1 : Int32))) (16 : Int32)) (8 : Int32)) (4 : Int32)) (2 : Int32)) (1 : Int32)))
  else
    (((a0 ^^^ (-1 : Int32)) &&& (a0 - (1 : Int32))) &&& (32 : Int32))
theorem kB_Integer_numberOfTrailingZeros : SB y_Integer_numberOfTrailingZeros b_Integer_numberOfTrailingZeros 2 (some .int) 1 := ⟨wt_334, wt_333, wt_47, by decide +kernel⟩
set_option maxHeartbeats 4000000 in
set_option maxRecDepth 100000 in
theorem c_Integer_numberOfTrailingZeros (l : Launch) (A : Nat → Prop) (ad : Nat → Nat) (a0 : Int32) : Met l y_Integer_numberOfTrailingZeros (Cond.code y_Integer_numberOfTrailingZeros b_Integer_numberOfTrailingZeros 2 (some .int) :: BT) ({ frames := 0, cells := 0, slots := 0, locals := 0 }) (PC A ad [.int a0]) (vp_Si (fun r => r = q_Integer_numberOfTrailingZeros a0)) 0 0 (fun _ => False) := by
  refine pm_ (by decide +kernel) (Nat.le_of_ble_eq_true rfl) ?_
  intro p e s m below meth c hq hr hk ls hl
  have hx := hq.1
  have hb := hq.2.1
  have hts := hq.2.2.2.2.1
  have hl : lv_has ls 2 [(0, .int a0)] := hl
  refine lv_iload_n hx hb d_Integer_numberOfTrailingZeros_0 rfl (lv_at hl 0 rfl) ?_
  refine lv_iconst (v := (-1 : Int32)) hx hb d_Integer_numberOfTrailingZeros_1 (by decide) ?_
  refine lv_ixor hx hb d_Integer_numberOfTrailingZeros_2 ?_
  refine lv_iload_n hx hb d_Integer_numberOfTrailingZeros_3 rfl (lv_at hl 0 rfl) ?_
  refine lv_iconst (v := (1 : Int32)) hx hb d_Integer_numberOfTrailingZeros_4 (by decide) ?_
  refine lv_isub hx hb d_Integer_numberOfTrailingZeros_5 ?_
  refine lv_iand hx hb d_Integer_numberOfTrailingZeros_6 ?_
  refine lv_istore_n (lv' := [(0, .int ((a0 ^^^ (-1 : Int32)) &&& (a0 - (1 : Int32))))]) hx hb d_Integer_numberOfTrailingZeros_7 rfl hl (by decide) rfl (fun ls hl => ?_)
  refine lv_iload_n hx hb d_Integer_numberOfTrailingZeros_8 rfl (lv_at hl 0 rfl) ?_
  refine lv_if_gt (tgt := 17) hx hb d_Integer_numberOfTrailingZeros_9 (by decide) (fun c_1 => ?_) (fun c_1 => ?_)
  · refine lv_iconst (v := (1 : Int32)) hx hb d_Integer_numberOfTrailingZeros_17 (by decide) ?_
    refine lv_istore_n (lv' := [(1, .int (1 : Int32)), (0, .int ((a0 ^^^ (-1 : Int32)) &&& (a0 - (1 : Int32))))]) hx hb d_Integer_numberOfTrailingZeros_18 rfl hl (by decide) rfl (fun ls hl => ?_)
    refine lv_iload_n hx hb d_Integer_numberOfTrailingZeros_19 rfl (lv_at hl 1 rfl) ?_
    refine lv_ldcw (v := (65536 : Int32)) hx hb hq.2.2.2.1 (hts _ wt_211) d_Integer_numberOfTrailingZeros_20 ?_
    refine lv_icmp_le (tgt := 34) hx hb d_Integer_numberOfTrailingZeros_23 (by decide) (fun c_2 => ?_) (fun c_2 => ?_)
    · refine lv_iload_n hx hb d_Integer_numberOfTrailingZeros_34 rfl (lv_at hl 1 rfl) ?_
      refine lv_sipush (v := (256 : Int32)) hx hb d_Integer_numberOfTrailingZeros_35 (by decide) ?_
      refine lv_icmp_le (tgt := 49) hx hb d_Integer_numberOfTrailingZeros_38 (by decide) (fun c_3 => ?_) (fun c_3 => ?_)
      · refine lv_iload_n hx hb d_Integer_numberOfTrailingZeros_49 rfl (lv_at hl 1 rfl) ?_
        refine lv_bipush (v := (16 : Int32)) hx hb d_Integer_numberOfTrailingZeros_50 (by decide) ?_
        refine lv_icmp_le (tgt := 62) hx hb d_Integer_numberOfTrailingZeros_52 (by decide) (fun c_4 => ?_) (fun c_4 => ?_)
        · refine lv_iload_n hx hb d_Integer_numberOfTrailingZeros_62 rfl (lv_at hl 1 rfl) ?_
          refine lv_iconst (v := (4 : Int32)) hx hb d_Integer_numberOfTrailingZeros_63 (by decide) ?_
          refine lv_icmp_le (tgt := 74) hx hb d_Integer_numberOfTrailingZeros_64 (by decide) (fun c_5 => ?_) (fun c_5 => ?_)
          · refine lv_iload_n hx hb d_Integer_numberOfTrailingZeros_74 rfl (lv_at hl 0 rfl) ?_
            refine lv_iload_n hx hb d_Integer_numberOfTrailingZeros_75 rfl (lv_at hl 1 rfl) ?_
            refine lv_iconst (v := (1 : Int32)) hx hb d_Integer_numberOfTrailingZeros_76 (by decide) ?_
            refine lv_iushr (v := (iush_ ((a0 ^^^ (-1 : Int32)) &&& (a0 - (1 : Int32))) (1 : Int32))) hx hb d_Integer_numberOfTrailingZeros_77 rfl ?_
            refine lv_iadd hx hb d_Integer_numberOfTrailingZeros_78 ?_
            exact ri_ hx hb hr hk (by rw [q_Integer_numberOfTrailingZeros, if_pos c_1, if_pos c_2, if_pos c_3, if_pos c_4, if_pos c_5]) d_Integer_numberOfTrailingZeros_79
          · refine lv_iinc (v := ((1 : Int32) + (2 : Int32))) (lv' := [(1, .int ((1 : Int32) + (2 : Int32))), (0, .int ((a0 ^^^ (-1 : Int32)) &&& (a0 - (1 : Int32))))]) hx hb d_Integer_numberOfTrailingZeros_67 hl (k := 0) rfl rfl (by decide) rfl (fun ls hl => ?_)
            refine lv_iload_n hx hb d_Integer_numberOfTrailingZeros_70 rfl (lv_at hl 1 rfl) ?_
            refine lv_iconst (v := (2 : Int32)) hx hb d_Integer_numberOfTrailingZeros_71 (by decide) ?_
            refine lv_iushr (v := (iush_ ((a0 ^^^ (-1 : Int32)) &&& (a0 - (1 : Int32))) (2 : Int32))) hx hb d_Integer_numberOfTrailingZeros_72 rfl ?_
            refine lv_istore_n (lv' := [(0, .int (iush_ ((a0 ^^^ (-1 : Int32)) &&& (a0 - (1 : Int32))) (2 : Int32))), (1, .int ((1 : Int32) + (2 : Int32)))]) hx hb d_Integer_numberOfTrailingZeros_73 rfl hl (by decide) rfl (fun ls hl => ?_)
            refine lv_iload_n hx hb d_Integer_numberOfTrailingZeros_74 rfl (lv_at hl 1 rfl) ?_
            refine lv_iload_n hx hb d_Integer_numberOfTrailingZeros_75 rfl (lv_at hl 0 rfl) ?_
            refine lv_iconst (v := (1 : Int32)) hx hb d_Integer_numberOfTrailingZeros_76 (by decide) ?_
            refine lv_iushr (v := (iush_ (iush_ ((a0 ^^^ (-1 : Int32)) &&& (a0 - (1 : Int32))) (2 : Int32)) (1 : Int32))) hx hb d_Integer_numberOfTrailingZeros_77 rfl ?_
            refine lv_iadd hx hb d_Integer_numberOfTrailingZeros_78 ?_
            exact ri_ hx hb hr hk (by rw [q_Integer_numberOfTrailingZeros, if_pos c_1, if_pos c_2, if_pos c_3, if_pos c_4, if_neg c_5]) d_Integer_numberOfTrailingZeros_79
        · refine lv_iinc (v := ((1 : Int32) + (4 : Int32))) (lv' := [(1, .int ((1 : Int32) + (4 : Int32))), (0, .int ((a0 ^^^ (-1 : Int32)) &&& (a0 - (1 : Int32))))]) hx hb d_Integer_numberOfTrailingZeros_55 hl (k := 0) rfl rfl (by decide) rfl (fun ls hl => ?_)
          refine lv_iload_n hx hb d_Integer_numberOfTrailingZeros_58 rfl (lv_at hl 1 rfl) ?_
          refine lv_iconst (v := (4 : Int32)) hx hb d_Integer_numberOfTrailingZeros_59 (by decide) ?_
          refine lv_iushr (v := (iush_ ((a0 ^^^ (-1 : Int32)) &&& (a0 - (1 : Int32))) (4 : Int32))) hx hb d_Integer_numberOfTrailingZeros_60 rfl ?_
          refine lv_istore_n (lv' := [(0, .int (iush_ ((a0 ^^^ (-1 : Int32)) &&& (a0 - (1 : Int32))) (4 : Int32))), (1, .int ((1 : Int32) + (4 : Int32)))]) hx hb d_Integer_numberOfTrailingZeros_61 rfl hl (by decide) rfl (fun ls hl => ?_)
          refine lv_iload_n hx hb d_Integer_numberOfTrailingZeros_62 rfl (lv_at hl 0 rfl) ?_
          refine lv_iconst (v := (4 : Int32)) hx hb d_Integer_numberOfTrailingZeros_63 (by decide) ?_
          refine lv_icmp_le (tgt := 74) hx hb d_Integer_numberOfTrailingZeros_64 (by decide) (fun c_6 => ?_) (fun c_6 => ?_)
          · refine lv_iload_n hx hb d_Integer_numberOfTrailingZeros_74 rfl (lv_at hl 1 rfl) ?_
            refine lv_iload_n hx hb d_Integer_numberOfTrailingZeros_75 rfl (lv_at hl 0 rfl) ?_
            refine lv_iconst (v := (1 : Int32)) hx hb d_Integer_numberOfTrailingZeros_76 (by decide) ?_
            refine lv_iushr (v := (iush_ (iush_ ((a0 ^^^ (-1 : Int32)) &&& (a0 - (1 : Int32))) (4 : Int32)) (1 : Int32))) hx hb d_Integer_numberOfTrailingZeros_77 rfl ?_
            refine lv_iadd hx hb d_Integer_numberOfTrailingZeros_78 ?_
            exact ri_ hx hb hr hk (by rw [q_Integer_numberOfTrailingZeros, if_pos c_1, if_pos c_2, if_pos c_3, if_neg c_4, if_pos c_6]) d_Integer_numberOfTrailingZeros_79
          · refine lv_iinc (v := (((1 : Int32) + (4 : Int32)) + (2 : Int32))) (lv' := [(1, .int (((1 : Int32) + (4 : Int32)) + (2 : Int32))), (0, .int (iush_ ((a0 ^^^ (-1 : Int32)) &&& (a0 - (1 : Int32))) (4 : Int32)))]) hx hb d_Integer_numberOfTrailingZeros_67 hl (k := 1) rfl rfl (by decide) rfl (fun ls hl => ?_)
            refine lv_iload_n hx hb d_Integer_numberOfTrailingZeros_70 rfl (lv_at hl 1 rfl) ?_
            refine lv_iconst (v := (2 : Int32)) hx hb d_Integer_numberOfTrailingZeros_71 (by decide) ?_
            refine lv_iushr (v := (iush_ (iush_ ((a0 ^^^ (-1 : Int32)) &&& (a0 - (1 : Int32))) (4 : Int32)) (2 : Int32))) hx hb d_Integer_numberOfTrailingZeros_72 rfl ?_
            refine lv_istore_n (lv' := [(0, .int (iush_ (iush_ ((a0 ^^^ (-1 : Int32)) &&& (a0 - (1 : Int32))) (4 : Int32)) (2 : Int32))), (1, .int (((1 : Int32) + (4 : Int32)) + (2 : Int32)))]) hx hb d_Integer_numberOfTrailingZeros_73 rfl hl (by decide) rfl (fun ls hl => ?_)
            refine lv_iload_n hx hb d_Integer_numberOfTrailingZeros_74 rfl (lv_at hl 1 rfl) ?_
            refine lv_iload_n hx hb d_Integer_numberOfTrailingZeros_75 rfl (lv_at hl 0 rfl) ?_
            refine lv_iconst (v := (1 : Int32)) hx hb d_Integer_numberOfTrailingZeros_76 (by decide) ?_
            refine lv_iushr (v := (iush_ (iush_ (iush_ ((a0 ^^^ (-1 : Int32)) &&& (a0 - (1 : Int32))) (4 : Int32)) (2 : Int32)) (1 : Int32))) hx hb d_Integer_numberOfTrailingZeros_77 rfl ?_
            refine lv_iadd hx hb d_Integer_numberOfTrailingZeros_78 ?_
            exact ri_ hx hb hr hk (by rw [q_Integer_numberOfTrailingZeros, if_pos c_1, if_pos c_2, if_pos c_3, if_neg c_4, if_neg c_6]) d_Integer_numberOfTrailingZeros_79
      · refine lv_iinc (v := ((1 : Int32) + (8 : Int32))) (lv' := [(1, .int ((1 : Int32) + (8 : Int32))), (0, .int ((a0 ^^^ (-1 : Int32)) &&& (a0 - (1 : Int32))))]) hx hb d_Integer_numberOfTrailingZeros_41 hl (k := 0) rfl rfl (by decide) rfl (fun ls hl => ?_)
        refine lv_iload_n hx hb d_Integer_numberOfTrailingZeros_44 rfl (lv_at hl 1 rfl) ?_
        refine lv_bipush (v := (8 : Int32)) hx hb d_Integer_numberOfTrailingZeros_45 (by decide) ?_
        refine lv_iushr (v := (iush_ ((a0 ^^^ (-1 : Int32)) &&& (a0 - (1 : Int32))) (8 : Int32))) hx hb d_Integer_numberOfTrailingZeros_47 rfl ?_
        refine lv_istore_n (lv' := [(0, .int (iush_ ((a0 ^^^ (-1 : Int32)) &&& (a0 - (1 : Int32))) (8 : Int32))), (1, .int ((1 : Int32) + (8 : Int32)))]) hx hb d_Integer_numberOfTrailingZeros_48 rfl hl (by decide) rfl (fun ls hl => ?_)
        refine lv_iload_n hx hb d_Integer_numberOfTrailingZeros_49 rfl (lv_at hl 0 rfl) ?_
        refine lv_bipush (v := (16 : Int32)) hx hb d_Integer_numberOfTrailingZeros_50 (by decide) ?_
        refine lv_icmp_le (tgt := 62) hx hb d_Integer_numberOfTrailingZeros_52 (by decide) (fun c_7 => ?_) (fun c_7 => ?_)
        · refine lv_iload_n hx hb d_Integer_numberOfTrailingZeros_62 rfl (lv_at hl 0 rfl) ?_
          refine lv_iconst (v := (4 : Int32)) hx hb d_Integer_numberOfTrailingZeros_63 (by decide) ?_
          refine lv_icmp_le (tgt := 74) hx hb d_Integer_numberOfTrailingZeros_64 (by decide) (fun c_8 => ?_) (fun c_8 => ?_)
          · refine lv_iload_n hx hb d_Integer_numberOfTrailingZeros_74 rfl (lv_at hl 1 rfl) ?_
            refine lv_iload_n hx hb d_Integer_numberOfTrailingZeros_75 rfl (lv_at hl 0 rfl) ?_
            refine lv_iconst (v := (1 : Int32)) hx hb d_Integer_numberOfTrailingZeros_76 (by decide) ?_
            refine lv_iushr (v := (iush_ (iush_ ((a0 ^^^ (-1 : Int32)) &&& (a0 - (1 : Int32))) (8 : Int32)) (1 : Int32))) hx hb d_Integer_numberOfTrailingZeros_77 rfl ?_
            refine lv_iadd hx hb d_Integer_numberOfTrailingZeros_78 ?_
            exact ri_ hx hb hr hk (by rw [q_Integer_numberOfTrailingZeros, if_pos c_1, if_pos c_2, if_neg c_3, if_pos c_7, if_pos c_8]) d_Integer_numberOfTrailingZeros_79
          · refine lv_iinc (v := (((1 : Int32) + (8 : Int32)) + (2 : Int32))) (lv' := [(1, .int (((1 : Int32) + (8 : Int32)) + (2 : Int32))), (0, .int (iush_ ((a0 ^^^ (-1 : Int32)) &&& (a0 - (1 : Int32))) (8 : Int32)))]) hx hb d_Integer_numberOfTrailingZeros_67 hl (k := 1) rfl rfl (by decide) rfl (fun ls hl => ?_)
            refine lv_iload_n hx hb d_Integer_numberOfTrailingZeros_70 rfl (lv_at hl 1 rfl) ?_
            refine lv_iconst (v := (2 : Int32)) hx hb d_Integer_numberOfTrailingZeros_71 (by decide) ?_
            refine lv_iushr (v := (iush_ (iush_ ((a0 ^^^ (-1 : Int32)) &&& (a0 - (1 : Int32))) (8 : Int32)) (2 : Int32))) hx hb d_Integer_numberOfTrailingZeros_72 rfl ?_
            refine lv_istore_n (lv' := [(0, .int (iush_ (iush_ ((a0 ^^^ (-1 : Int32)) &&& (a0 - (1 : Int32))) (8 : Int32)) (2 : Int32))), (1, .int (((1 : Int32) + (8 : Int32)) + (2 : Int32)))]) hx hb d_Integer_numberOfTrailingZeros_73 rfl hl (by decide) rfl (fun ls hl => ?_)
            refine lv_iload_n hx hb d_Integer_numberOfTrailingZeros_74 rfl (lv_at hl 1 rfl) ?_
            refine lv_iload_n hx hb d_Integer_numberOfTrailingZeros_75 rfl (lv_at hl 0 rfl) ?_
            refine lv_iconst (v := (1 : Int32)) hx hb d_Integer_numberOfTrailingZeros_76 (by decide) ?_
            refine lv_iushr (v := (iush_ (iush_ (iush_ ((a0 ^^^ (-1 : Int32)) &&& (a0 - (1 : Int32))) (8 : Int32)) (2 : Int32)) (1 : Int32))) hx hb d_Integer_numberOfTrailingZeros_77 rfl ?_
            refine lv_iadd hx hb d_Integer_numberOfTrailingZeros_78 ?_
            exact ri_ hx hb hr hk (by rw [q_Integer_numberOfTrailingZeros, if_pos c_1, if_pos c_2, if_neg c_3, if_pos c_7, if_neg c_8]) d_Integer_numberOfTrailingZeros_79
        · refine lv_iinc (v := (((1 : Int32) + (8 : Int32)) + (4 : Int32))) (lv' := [(1, .int (((1 : Int32) + (8 : Int32)) + (4 : Int32))), (0, .int (iush_ ((a0 ^^^ (-1 : Int32)) &&& (a0 - (1 : Int32))) (8 : Int32)))]) hx hb d_Integer_numberOfTrailingZeros_55 hl (k := 1) rfl rfl (by decide) rfl (fun ls hl => ?_)
          refine lv_iload_n hx hb d_Integer_numberOfTrailingZeros_58 rfl (lv_at hl 1 rfl) ?_
          refine lv_iconst (v := (4 : Int32)) hx hb d_Integer_numberOfTrailingZeros_59 (by decide) ?_
          refine lv_iushr (v := (iush_ (iush_ ((a0 ^^^ (-1 : Int32)) &&& (a0 - (1 : Int32))) (8 : Int32)) (4 : Int32))) hx hb d_Integer_numberOfTrailingZeros_60 rfl ?_
          refine lv_istore_n (lv' := [(0, .int (iush_ (iush_ ((a0 ^^^ (-1 : Int32)) &&& (a0 - (1 : Int32))) (8 : Int32)) (4 : Int32))), (1, .int (((1 : Int32) + (8 : Int32)) + (4 : Int32)))]) hx hb d_Integer_numberOfTrailingZeros_61 rfl hl (by decide) rfl (fun ls hl => ?_)
          refine lv_iload_n hx hb d_Integer_numberOfTrailingZeros_62 rfl (lv_at hl 0 rfl) ?_
          refine lv_iconst (v := (4 : Int32)) hx hb d_Integer_numberOfTrailingZeros_63 (by decide) ?_
          refine lv_icmp_le (tgt := 74) hx hb d_Integer_numberOfTrailingZeros_64 (by decide) (fun c_9 => ?_) (fun c_9 => ?_)
          · refine lv_iload_n hx hb d_Integer_numberOfTrailingZeros_74 rfl (lv_at hl 1 rfl) ?_
            refine lv_iload_n hx hb d_Integer_numberOfTrailingZeros_75 rfl (lv_at hl 0 rfl) ?_
            refine lv_iconst (v := (1 : Int32)) hx hb d_Integer_numberOfTrailingZeros_76 (by decide) ?_
            refine lv_iushr (v := (iush_ (iush_ (iush_ ((a0 ^^^ (-1 : Int32)) &&& (a0 - (1 : Int32))) (8 : Int32)) (4 : Int32)) (1 : Int32))) hx hb d_Integer_numberOfTrailingZeros_77 rfl ?_
            refine lv_iadd hx hb d_Integer_numberOfTrailingZeros_78 ?_
            exact ri_ hx hb hr hk (by rw [q_Integer_numberOfTrailingZeros, if_pos c_1, if_pos c_2, if_neg c_3, if_neg c_7, if_pos c_9]) d_Integer_numberOfTrailingZeros_79
          · refine lv_iinc (v := ((((1 : Int32) + (8 : Int32)) + (4 : Int32)) + (2 : Int32))) (lv' := [(1, .int ((((1 : Int32) + (8 : Int32)) + (4 : Int32)) + (2 : Int32))), (0, .int (iush_ (iush_ ((a0 ^^^ (-1 : Int32)) &&& (a0 - (1 : Int32))) (8 : Int32)) (4 : Int32)))]) hx hb d_Integer_numberOfTrailingZeros_67 hl (k := 1) rfl rfl (by decide) rfl (fun ls hl => ?_)
            refine lv_iload_n hx hb d_Integer_numberOfTrailingZeros_70 rfl (lv_at hl 1 rfl) ?_
            refine lv_iconst (v := (2 : Int32)) hx hb d_Integer_numberOfTrailingZeros_71 (by decide) ?_
            refine lv_iushr (v := (iush_ (iush_ (iush_ ((a0 ^^^ (-1 : Int32)) &&& (a0 - (1 : Int32))) (8 : Int32)) (4 : Int32)) (2 : Int32))) hx hb d_Integer_numberOfTrailingZeros_72 rfl ?_
            refine lv_istore_n (lv' := [(0, .int (iush_ (iush_ (iush_ ((a0 ^^^ (-1 : Int32)) &&& (a0 - (1 : Int32))) (8 : Int32)) (4 : Int32)) (2 : Int32))), (1, .int ((((1 : Int32) + (8 : Int32)) + (4 : Int32)) + (2 : Int32)))]) hx hb d_Integer_numberOfTrailingZeros_73 rfl hl (by decide) rfl (fun ls hl => ?_)
            refine lv_iload_n hx hb d_Integer_numberOfTrailingZeros_74 rfl (lv_at hl 1 rfl) ?_
            refine lv_iload_n hx hb d_Integer_numberOfTrailingZeros_75 rfl (lv_at hl 0 rfl) ?_
            refine lv_iconst (v := (1 : Int32)) hx hb d_Integer_numberOfTrailingZeros_76 (by decide) ?_
            refine lv_iushr (v := (iush_ (iush_ (iush_ (iush_ ((a0 ^^^ (-1 : Int32)) &&& (a0 - (1 : Int32))) (8 : Int32)) (4 : Int32)) (2 : Int32)) (1 : Int32))) hx hb d_Integer_numberOfTrailingZeros_77 rfl ?_
            refine lv_iadd hx hb d_Integer_numberOfTrailingZeros_78 ?_
            exact ri_ hx hb hr hk (by rw [q_Integer_numberOfTrailingZeros, if_pos c_1, if_pos c_2, if_neg c_3, if_neg c_7, if_neg c_9]) d_Integer_numberOfTrailingZeros_79
    · refine lv_iinc (v := ((1 : Int32) + (16 : Int32))) (lv' := [(1, .int ((1 : Int32) + (16 : Int32))), (0, .int ((a0 ^^^ (-1 : Int32)) &&& (a0 - (1 : Int32))))]) hx hb d_Integer_numberOfTrailingZeros_26 hl (k := 0) rfl rfl (by decide) rfl (fun ls hl => ?_)
      refine lv_iload_n hx hb d_Integer_numberOfTrailingZeros_29 rfl (lv_at hl 1 rfl) ?_
      refine lv_bipush (v := (16 : Int32)) hx hb d_Integer_numberOfTrailingZeros_30 (by decide) ?_
      refine lv_iushr (v := (iush_ ((a0 ^^^ (-1 : Int32)) &&& (a0 - (1 : Int32))) (16 : Int32))) hx hb d_Integer_numberOfTrailingZeros_32 rfl ?_
      refine lv_istore_n (lv' := [(0, .int (iush_ ((a0 ^^^ (-1 : Int32)) &&& (a0 - (1 : Int32))) (16 : Int32))), (1, .int ((1 : Int32) + (16 : Int32)))]) hx hb d_Integer_numberOfTrailingZeros_33 rfl hl (by decide) rfl (fun ls hl => ?_)
      refine lv_iload_n hx hb d_Integer_numberOfTrailingZeros_34 rfl (lv_at hl 0 rfl) ?_
      refine lv_sipush (v := (256 : Int32)) hx hb d_Integer_numberOfTrailingZeros_35 (by decide) ?_
      refine lv_icmp_le (tgt := 49) hx hb d_Integer_numberOfTrailingZeros_38 (by decide) (fun c_10 => ?_) (fun c_10 => ?_)
      · refine lv_iload_n hx hb d_Integer_numberOfTrailingZeros_49 rfl (lv_at hl 0 rfl) ?_
        refine lv_bipush (v := (16 : Int32)) hx hb d_Integer_numberOfTrailingZeros_50 (by decide) ?_
        refine lv_icmp_le (tgt := 62) hx hb d_Integer_numberOfTrailingZeros_52 (by decide) (fun c_11 => ?_) (fun c_11 => ?_)
        · refine lv_iload_n hx hb d_Integer_numberOfTrailingZeros_62 rfl (lv_at hl 0 rfl) ?_
          refine lv_iconst (v := (4 : Int32)) hx hb d_Integer_numberOfTrailingZeros_63 (by decide) ?_
          refine lv_icmp_le (tgt := 74) hx hb d_Integer_numberOfTrailingZeros_64 (by decide) (fun c_12 => ?_) (fun c_12 => ?_)
          · refine lv_iload_n hx hb d_Integer_numberOfTrailingZeros_74 rfl (lv_at hl 1 rfl) ?_
            refine lv_iload_n hx hb d_Integer_numberOfTrailingZeros_75 rfl (lv_at hl 0 rfl) ?_
            refine lv_iconst (v := (1 : Int32)) hx hb d_Integer_numberOfTrailingZeros_76 (by decide) ?_
            refine lv_iushr (v := (iush_ (iush_ ((a0 ^^^ (-1 : Int32)) &&& (a0 - (1 : Int32))) (16 : Int32)) (1 : Int32))) hx hb d_Integer_numberOfTrailingZeros_77 rfl ?_
            refine lv_iadd hx hb d_Integer_numberOfTrailingZeros_78 ?_
            exact ri_ hx hb hr hk (by rw [q_Integer_numberOfTrailingZeros, if_pos c_1, if_neg c_2, if_pos c_10, if_pos c_11, if_pos c_12]) d_Integer_numberOfTrailingZeros_79
          · refine lv_iinc (v := (((1 : Int32) + (16 : Int32)) + (2 : Int32))) (lv' := [(1, .int (((1 : Int32) + (16 : Int32)) + (2 : Int32))), (0, .int (iush_ ((a0 ^^^ (-1 : Int32)) &&& (a0 - (1 : Int32))) (16 : Int32)))]) hx hb d_Integer_numberOfTrailingZeros_67 hl (k := 1) rfl rfl (by decide) rfl (fun ls hl => ?_)
            refine lv_iload_n hx hb d_Integer_numberOfTrailingZeros_70 rfl (lv_at hl 1 rfl) ?_
            refine lv_iconst (v := (2 : Int32)) hx hb d_Integer_numberOfTrailingZeros_71 (by decide) ?_
            refine lv_iushr (v := (iush_ (iush_ ((a0 ^^^ (-1 : Int32)) &&& (a0 - (1 : Int32))) (16 : Int32)) (2 : Int32))) hx hb d_Integer_numberOfTrailingZeros_72 rfl ?_
            refine lv_istore_n (lv' := [(0, .int (iush_ (iush_ ((a0 ^^^ (-1 : Int32)) &&& (a0 - (1 : Int32))) (16 : Int32)) (2 : Int32))), (1, .int (((1 : Int32) + (16 : Int32)) + (2 : Int32)))]) hx hb d_Integer_numberOfTrailingZeros_73 rfl hl (by decide) rfl (fun ls hl => ?_)
            refine lv_iload_n hx hb d_Integer_numberOfTrailingZeros_74 rfl (lv_at hl 1 rfl) ?_
            refine lv_iload_n hx hb d_Integer_numberOfTrailingZeros_75 rfl (lv_at hl 0 rfl) ?_
            refine lv_iconst (v := (1 : Int32)) hx hb d_Integer_numberOfTrailingZeros_76 (by decide) ?_
            refine lv_iushr (v := (iush_ (iush_ (iush_ ((a0 ^^^ (-1 : Int32)) &&& (a0 - (1 : Int32))) (16 : Int32)) (2 : Int32)) (1 : Int32))) hx hb d_Integer_numberOfTrailingZeros_77 rfl ?_
            refine lv_iadd hx hb d_Integer_numberOfTrailingZeros_78 ?_
            exact ri_ hx hb hr hk (by rw [q_Integer_numberOfTrailingZeros, if_pos c_1, if_neg c_2, if_pos c_10, if_pos c_11, if_neg c_12]) d_Integer_numberOfTrailingZeros_79
        · refine lv_iinc (v := (((1 : Int32) + (16 : Int32)) + (4 : Int32))) (lv' := [(1, .int (((1 : Int32) + (16 : Int32)) + (4 : Int32))), (0, .int (iush_ ((a0 ^^^ (-1 : Int32)) &&& (a0 - (1 : Int32))) (16 : Int32)))]) hx hb d_Integer_numberOfTrailingZeros_55 hl (k := 1) rfl rfl (by decide) rfl (fun ls hl => ?_)
          refine lv_iload_n hx hb d_Integer_numberOfTrailingZeros_58 rfl (lv_at hl 1 rfl) ?_
          refine lv_iconst (v := (4 : Int32)) hx hb d_Integer_numberOfTrailingZeros_59 (by decide) ?_
          refine lv_iushr (v := (iush_ (iush_ ((a0 ^^^ (-1 : Int32)) &&& (a0 - (1 : Int32))) (16 : Int32)) (4 : Int32))) hx hb d_Integer_numberOfTrailingZeros_60 rfl ?_
          refine lv_istore_n (lv' := [(0, .int (iush_ (iush_ ((a0 ^^^ (-1 : Int32)) &&& (a0 - (1 : Int32))) (16 : Int32)) (4 : Int32))), (1, .int (((1 : Int32) + (16 : Int32)) + (4 : Int32)))]) hx hb d_Integer_numberOfTrailingZeros_61 rfl hl (by decide) rfl (fun ls hl => ?_)
          refine lv_iload_n hx hb d_Integer_numberOfTrailingZeros_62 rfl (lv_at hl 0 rfl) ?_
          refine lv_iconst (v := (4 : Int32)) hx hb d_Integer_numberOfTrailingZeros_63 (by decide) ?_
          refine lv_icmp_le (tgt := 74) hx hb d_Integer_numberOfTrailingZeros_64 (by decide) (fun c_13 => ?_) (fun c_13 => ?_)
          · refine lv_iload_n hx hb d_Integer_numberOfTrailingZeros_74 rfl (lv_at hl 1 rfl) ?_
            refine lv_iload_n hx hb d_Integer_numberOfTrailingZeros_75 rfl (lv_at hl 0 rfl) ?_
            refine lv_iconst (v := (1 : Int32)) hx hb d_Integer_numberOfTrailingZeros_76 (by decide) ?_
            refine lv_iushr (v := (iush_ (iush_ (iush_ ((a0 ^^^ (-1 : Int32)) &&& (a0 - (1 : Int32))) (16 : Int32)) (4 : Int32)) (1 : Int32))) hx hb d_Integer_numberOfTrailingZeros_77 rfl ?_
            refine lv_iadd hx hb d_Integer_numberOfTrailingZeros_78 ?_
            exact ri_ hx hb hr hk (by rw [q_Integer_numberOfTrailingZeros, if_pos c_1, if_neg c_2, if_pos c_10, if_neg c_11, if_pos c_13]) d_Integer_numberOfTrailingZeros_79
          · refine lv_iinc (v := ((((1 : Int32) + (16 : Int32)) + (4 : Int32)) + (2 : Int32))) (lv' := [(1, .int ((((1 : Int32) + (16 : Int32)) + (4 : Int32)) + (2 : Int32))), (0, .int (iush_ (iush_ ((a0 ^^^ (-1 : Int32)) &&& (a0 - (1 : Int32))) (16 : Int32)) (4 : Int32)))]) hx hb d_Integer_numberOfTrailingZeros_67 hl (k := 1) rfl rfl (by decide) rfl (fun ls hl => ?_)
            refine lv_iload_n hx hb d_Integer_numberOfTrailingZeros_70 rfl (lv_at hl 1 rfl) ?_
            refine lv_iconst (v := (2 : Int32)) hx hb d_Integer_numberOfTrailingZeros_71 (by decide) ?_
            refine lv_iushr (v := (iush_ (iush_ (iush_ ((a0 ^^^ (-1 : Int32)) &&& (a0 - (1 : Int32))) (16 : Int32)) (4 : Int32)) (2 : Int32))) hx hb d_Integer_numberOfTrailingZeros_72 rfl ?_
            refine lv_istore_n (lv' := [(0, .int (iush_ (iush_ (iush_ ((a0 ^^^ (-1 : Int32)) &&& (a0 - (1 : Int32))) (16 : Int32)) (4 : Int32)) (2 : Int32))), (1, .int ((((1 : Int32) + (16 : Int32)) + (4 : Int32)) + (2 : Int32)))]) hx hb d_Integer_numberOfTrailingZeros_73 rfl hl (by decide) rfl (fun ls hl => ?_)
            refine lv_iload_n hx hb d_Integer_numberOfTrailingZeros_74 rfl (lv_at hl 1 rfl) ?_
            refine lv_iload_n hx hb d_Integer_numberOfTrailingZeros_75 rfl (lv_at hl 0 rfl) ?_
            refine lv_iconst (v := (1 : Int32)) hx hb d_Integer_numberOfTrailingZeros_76 (by decide) ?_
            refine lv_iushr (v := (iush_ (iush_ (iush_ (iush_ ((a0 ^^^ (-1 : Int32)) &&& (a0 - (1 : Int32))) (16 : Int32)) (4 : Int32)) (2 : Int32)) (1 : Int32))) hx hb d_Integer_numberOfTrailingZeros_77 rfl ?_
            refine lv_iadd hx hb d_Integer_numberOfTrailingZeros_78 ?_
            exact ri_ hx hb hr hk (by rw [q_Integer_numberOfTrailingZeros, if_pos c_1, if_neg c_2, if_pos c_10, if_neg c_11, if_neg c_13]) d_Integer_numberOfTrailingZeros_79
      · refine lv_iinc (v := (((1 : Int32) + (16 : Int32)) + (8 : Int32))) (lv' := [(1, .int (((1 : Int32) + (16 : Int32)) + (8 : Int32))), (0, .int (iush_ ((a0 ^^^ (-1 : Int32)) &&& (a0 - (1 : Int32))) (16 : Int32)))]) hx hb d_Integer_numberOfTrailingZeros_41 hl (k := 1) rfl rfl (by decide) rfl (fun ls hl => ?_)
        refine lv_iload_n hx hb d_Integer_numberOfTrailingZeros_44 rfl (lv_at hl 1 rfl) ?_
        refine lv_bipush (v := (8 : Int32)) hx hb d_Integer_numberOfTrailingZeros_45 (by decide) ?_
        refine lv_iushr (v := (iush_ (iush_ ((a0 ^^^ (-1 : Int32)) &&& (a0 - (1 : Int32))) (16 : Int32)) (8 : Int32))) hx hb d_Integer_numberOfTrailingZeros_47 rfl ?_
        refine lv_istore_n (lv' := [(0, .int (iush_ (iush_ ((a0 ^^^ (-1 : Int32)) &&& (a0 - (1 : Int32))) (16 : Int32)) (8 : Int32))), (1, .int (((1 : Int32) + (16 : Int32)) + (8 : Int32)))]) hx hb d_Integer_numberOfTrailingZeros_48 rfl hl (by decide) rfl (fun ls hl => ?_)
        refine lv_iload_n hx hb d_Integer_numberOfTrailingZeros_49 rfl (lv_at hl 0 rfl) ?_
        refine lv_bipush (v := (16 : Int32)) hx hb d_Integer_numberOfTrailingZeros_50 (by decide) ?_
        refine lv_icmp_le (tgt := 62) hx hb d_Integer_numberOfTrailingZeros_52 (by decide) (fun c_14 => ?_) (fun c_14 => ?_)
        · refine lv_iload_n hx hb d_Integer_numberOfTrailingZeros_62 rfl (lv_at hl 0 rfl) ?_
          refine lv_iconst (v := (4 : Int32)) hx hb d_Integer_numberOfTrailingZeros_63 (by decide) ?_
          refine lv_icmp_le (tgt := 74) hx hb d_Integer_numberOfTrailingZeros_64 (by decide) (fun c_15 => ?_) (fun c_15 => ?_)
          · refine lv_iload_n hx hb d_Integer_numberOfTrailingZeros_74 rfl (lv_at hl 1 rfl) ?_
            refine lv_iload_n hx hb d_Integer_numberOfTrailingZeros_75 rfl (lv_at hl 0 rfl) ?_
            refine lv_iconst (v := (1 : Int32)) hx hb d_Integer_numberOfTrailingZeros_76 (by decide) ?_
            refine lv_iushr (v := (iush_ (iush_ (iush_ ((a0 ^^^ (-1 : Int32)) &&& (a0 - (1 : Int32))) (16 : Int32)) (8 : Int32)) (1 : Int32))) hx hb d_Integer_numberOfTrailingZeros_77 rfl ?_
            refine lv_iadd hx hb d_Integer_numberOfTrailingZeros_78 ?_
            exact ri_ hx hb hr hk (by rw [q_Integer_numberOfTrailingZeros, if_pos c_1, if_neg c_2, if_neg c_10, if_pos c_14, if_pos c_15]) d_Integer_numberOfTrailingZeros_79
          · refine lv_iinc (v := ((((1 : Int32) + (16 : Int32)) + (8 : Int32)) + (2 : Int32))) (lv' := [(1, .int ((((1 : Int32) + (16 : Int32)) + (8 : Int32)) + (2 : Int32))), (0, .int (iush_ (iush_ ((a0 ^^^ (-1 : Int32)) &&& (a0 - (1 : Int32))) (16 : Int32)) (8 : Int32)))]) hx hb d_Integer_numberOfTrailingZeros_67 hl (k := 1) rfl rfl (by decide) rfl (fun ls hl => ?_)
            refine lv_iload_n hx hb d_Integer_numberOfTrailingZeros_70 rfl (lv_at hl 1 rfl) ?_
            refine lv_iconst (v := (2 : Int32)) hx hb d_Integer_numberOfTrailingZeros_71 (by decide) ?_
            refine lv_iushr (v := (iush_ (iush_ (iush_ ((a0 ^^^ (-1 : Int32)) &&& (a0 - (1 : Int32))) (16 : Int32)) (8 : Int32)) (2 : Int32))) hx hb d_Integer_numberOfTrailingZeros_72 rfl ?_
            refine lv_istore_n (lv' := [(0, .int (iush_ (iush_ (iush_ ((a0 ^^^ (-1 : Int32)) &&& (a0 - (1 : Int32))) (16 : Int32)) (8 : Int32)) (2 : Int32))), (1, .int ((((1 : Int32) + (16 : Int32)) + (8 : Int32)) + (2 : Int32)))]) hx hb d_Integer_numberOfTrailingZeros_73 rfl hl (by decide) rfl (fun ls hl => ?_)
            refine lv_iload_n hx hb d_Integer_numberOfTrailingZeros_74 rfl (lv_at hl 1 rfl) ?_
            refine lv_iload_n hx hb d_Integer_numberOfTrailingZeros_75 rfl (lv_at hl 0 rfl) ?_
            refine lv_iconst (v := (1 : Int32)) hx hb d_Integer_numberOfTrailingZeros_76 (by decide) ?_
            refine lv_iushr (v := (iush_ (iush_ (iush_ (iush_ ((a0 ^^^ (-1 : Int32)) &&& (a0 - (1 : Int32))) (16 : Int32)) (8 : Int32)) (2 : Int32)) (1 : Int32))) hx hb d_Integer_numberOfTrailingZeros_77 rfl ?_
            refine lv_iadd hx hb d_Integer_numberOfTrailingZeros_78 ?_
            exact ri_ hx hb hr hk (by rw [q_Integer_numberOfTrailingZeros, if_pos c_1, if_neg c_2, if_neg c_10, if_pos c_14, if_neg c_15]) d_Integer_numberOfTrailingZeros_79
        · refine lv_iinc (v := ((((1 : Int32) + (16 : Int32)) + (8 : Int32)) + (4 : Int32))) (lv' := [(1, .int ((((1 : Int32) + (16 : Int32)) + (8 : Int32)) + (4 : Int32))), (0, .int (iush_ (iush_ ((a0 ^^^ (-1 : Int32)) &&& (a0 - (1 : Int32))) (16 : Int32)) (8 : Int32)))]) hx hb d_Integer_numberOfTrailingZeros_55 hl (k := 1) rfl rfl (by decide) rfl (fun ls hl => ?_)
          refine lv_iload_n hx hb d_Integer_numberOfTrailingZeros_58 rfl (lv_at hl 1 rfl) ?_
          refine lv_iconst (v := (4 : Int32)) hx hb d_Integer_numberOfTrailingZeros_59 (by decide) ?_
          refine lv_iushr (v := (iush_ (iush_ (iush_ ((a0 ^^^ (-1 : Int32)) &&& (a0 - (1 : Int32))) (16 : Int32)) (8 : Int32)) (4 : Int32))) hx hb d_Integer_numberOfTrailingZeros_60 rfl ?_
          refine lv_istore_n (lv' := [(0, .int (iush_ (iush_ (iush_ ((a0 ^^^ (-1 : Int32)) &&& (a0 - (1 : Int32))) (16 : Int32)) (8 : Int32)) (4 : Int32))), (1, .int ((((1 : Int32) + (16 : Int32)) + (8 : Int32)) + (4 : Int32)))]) hx hb d_Integer_numberOfTrailingZeros_61 rfl hl (by decide) rfl (fun ls hl => ?_)
          refine lv_iload_n hx hb d_Integer_numberOfTrailingZeros_62 rfl (lv_at hl 0 rfl) ?_
          refine lv_iconst (v := (4 : Int32)) hx hb d_Integer_numberOfTrailingZeros_63 (by decide) ?_
          refine lv_icmp_le (tgt := 74) hx hb d_Integer_numberOfTrailingZeros_64 (by decide) (fun c_16 => ?_) (fun c_16 => ?_)
          · refine lv_iload_n hx hb d_Integer_numberOfTrailingZeros_74 rfl (lv_at hl 1 rfl) ?_
            refine lv_iload_n hx hb d_Integer_numberOfTrailingZeros_75 rfl (lv_at hl 0 rfl) ?_
            refine lv_iconst (v := (1 : Int32)) hx hb d_Integer_numberOfTrailingZeros_76 (by decide) ?_
            refine lv_iushr (v := (iush_ (iush_ (iush_ (iush_ ((a0 ^^^ (-1 : Int32)) &&& (a0 - (1 : Int32))) (16 : Int32)) (8 : Int32)) (4 : Int32)) (1 : Int32))) hx hb d_Integer_numberOfTrailingZeros_77 rfl ?_
            refine lv_iadd hx hb d_Integer_numberOfTrailingZeros_78 ?_
            exact ri_ hx hb hr hk (by rw [q_Integer_numberOfTrailingZeros, if_pos c_1, if_neg c_2, if_neg c_10, if_neg c_14, if_pos c_16]) d_Integer_numberOfTrailingZeros_79
          · refine lv_iinc (v := (((((1 : Int32) + (16 : Int32)) + (8 : Int32)) + (4 : Int32)) + (2 : Int32))) (lv' := [(1, .int (((((1 : Int32) + (16 : Int32)) + (8 : Int32)) + (4 : Int32)) + (2 : Int32))), (0, .int (iush_ (iush_ (iush_ ((a0 ^^^ (-1 : Int32)) &&& (a0 - (1 : Int32))) (16 : Int32)) (8 : Int32)) (4 : Int32)))]) hx hb d_Integer_numberOfTrailingZeros_67 hl (k := 1) rfl rfl (by decide) rfl (fun ls hl => ?_)
            refine lv_iload_n hx hb d_Integer_numberOfTrailingZeros_70 rfl (lv_at hl 1 rfl) ?_
            refine lv_iconst (v := (2 : Int32)) hx hb d_Integer_numberOfTrailingZeros_71 (by decide) ?_
            refine lv_iushr (v := (iush_ (iush_ (iush_ (iush_ ((a0 ^^^ (-1 : Int32)) &&& (a0 - (1 : Int32))) (16 : Int32)) (8 : Int32)) (4 : Int32)) (2 : Int32))) hx hb d_Integer_numberOfTrailingZeros_72 rfl ?_
            refine lv_istore_n (lv' := [(0, .int (iush_ (iush_ (iush_ (iush_ ((a0 ^^^ (-1 : Int32)) &&& (a0 - (1 : Int32))) (16 : Int32)) (8 : Int32)) (4 : Int32)) (2 : Int32))), (1, .int (((((1 : Int32) + (16 : Int32)) + (8 : Int32)) + (4 : Int32)) + (2 : Int32)))]) hx hb d_Integer_numberOfTrailingZeros_73 rfl hl (by decide) rfl (fun ls hl => ?_)
            refine lv_iload_n hx hb d_Integer_numberOfTrailingZeros_74 rfl (lv_at hl 1 rfl) ?_
            refine lv_iload_n hx hb d_Integer_numberOfTrailingZeros_75 rfl (lv_at hl 0 rfl) ?_
            refine lv_iconst (v := (1 : Int32)) hx hb d_Integer_numberOfTrailingZeros_76 (by decide) ?_
            refine lv_iushr (v := (iush_ (iush_ (iush_ (iush_ (iush_ ((a0 ^^^ (-1 : Int32)) &&& (a0 - (1 : Int32))) (16 : Int32)) (8 : Int32)) (4 : Int32)) (2 : Int32)) (1 : Int32))) hx hb d_Integer_numberOfTrailingZeros_77 rfl ?_
            refine lv_iadd hx hb d_Integer_numberOfTrailingZeros_78 ?_
            exact ri_ hx hb hr hk (by rw [q_Integer_numberOfTrailingZeros, if_pos c_1, if_neg c_2, if_neg c_10, if_neg c_14, if_neg c_16]) d_Integer_numberOfTrailingZeros_79
  · refine lv_iload_n hx hb d_Integer_numberOfTrailingZeros_12 rfl (lv_at hl 0 rfl) ?_
    refine lv_bipush (v := (32 : Int32)) hx hb d_Integer_numberOfTrailingZeros_13 (by decide) ?_
    refine lv_iand hx hb d_Integer_numberOfTrailingZeros_15 ?_
    exact ri_ hx hb hr hk (by rw [q_Integer_numberOfTrailingZeros, if_neg c_1]) d_Integer_numberOfTrailingZeros_16
def q_Long_numberOfTrailingZeros (a0 : Int64) : Int32 :=
  if (Int64.toInt32 a0) = 0 then
    ((32 : Int32) + (q_Integer_numberOfTrailingZeros (Int64.toInt32 (ush_ a0 (32 : Int32)))))
  else
    (q_Integer_numberOfTrailingZeros (Int64.toInt32 a0))
theorem kB_Long_numberOfTrailingZeros : SB y_Long_numberOfTrailingZeros b_Long_numberOfTrailingZeros 3 (some .int) 1 := ⟨wt_331, wt_330, wt_46, by decide +kernel⟩
set_option maxHeartbeats 4000000 in
set_option maxRecDepth 100000 in
theorem c_Long_numberOfTrailingZeros (l : Launch) (A : Nat → Prop) (ad : Nat → Nat) (a0 : Int64) : Met l y_Long_numberOfTrailingZeros (Cond.code y_Long_numberOfTrailingZeros b_Long_numberOfTrailingZeros 3 (some .int) :: BT) ({ frames := 1, cells := 0, slots := 0, locals := 21 }) (PC A ad [.long a0]) (vp_Si (fun r => r = q_Long_numberOfTrailingZeros a0)) 0 0 (fun _ => False) := by
  refine pm_ (by decide +kernel) (Nat.le_of_ble_eq_true rfl) ?_
  intro p e s m below meth c hq hr hk ls hl
  have hx := hq.1
  have hb := hq.2.1
  have hts := hq.2.2.2.2.1
  have hl : lv_has ls 3 [(0, .long a0)] := hl
  refine lv_lload_n hx hb d_Long_numberOfTrailingZeros_0 rfl (lv_at hl 0 rfl) ?_
  refine lv_l2i (v := (Int64.toInt32 a0)) hx hb d_Long_numberOfTrailingZeros_1 rfl ?_
  refine lv_istore_n (lv' := [(2, .int (Int64.toInt32 a0)), (0, .long a0)]) hx hb d_Long_numberOfTrailingZeros_2 rfl hl (by decide) rfl (fun ls hl => ?_)
  refine lv_iload_n hx hb d_Long_numberOfTrailingZeros_3 rfl (lv_at hl 0 rfl) ?_
  refine lv_if_ne (tgt := 21) hx hb d_Long_numberOfTrailingZeros_4 (by decide) (fun c_1 => ?_) (fun c_1 => ?_)
  · refine lv_iload_n hx hb d_Long_numberOfTrailingZeros_21 rfl (lv_at hl 0 rfl) ?_
    refine si_ (As := [.int (Int64.toInt32 a0)]) (rest := []) hq (c_Integer_numberOfTrailingZeros l A ad (Int64.toInt32 a0)) kB_Integer_numberOfTrailingZeros wt_332 ⟨rfl, rfl, Nat.le_of_ble_eq_true rfl, Nat.le_of_ble_eq_true rfl⟩ rfl hl.1 rfl (Nat.le_of_ble_eq_true rfl) d_Long_numberOfTrailingZeros_22 ⟨Nat.zero_le _, Nat.zero_le _⟩ ?_
    exact ri_ hx hb hr hk (by rw [q_Long_numberOfTrailingZeros, if_neg c_1]) d_Long_numberOfTrailingZeros_25
  · refine lv_bipush (v := (32 : Int32)) hx hb d_Long_numberOfTrailingZeros_7 (by decide) ?_
    refine lv_lload_n hx hb d_Long_numberOfTrailingZeros_9 rfl (lv_at hl 1 rfl) ?_
    refine lv_bipush (v := (32 : Int32)) hx hb d_Long_numberOfTrailingZeros_10 (by decide) ?_
    refine lv_lushr (v := (ush_ a0 (32 : Int32))) hx hb d_Long_numberOfTrailingZeros_12 rfl ?_
    refine lv_l2i (v := (Int64.toInt32 (ush_ a0 (32 : Int32)))) hx hb d_Long_numberOfTrailingZeros_13 rfl ?_
    refine si_ (As := [.int (Int64.toInt32 (ush_ a0 (32 : Int32)))]) (rest := [.int (32 : Int32)]) hq (c_Integer_numberOfTrailingZeros l A ad (Int64.toInt32 (ush_ a0 (32 : Int32)))) kB_Integer_numberOfTrailingZeros wt_332 ⟨rfl, rfl, Nat.le_of_ble_eq_true rfl, Nat.le_of_ble_eq_true rfl⟩ rfl hl.1 rfl (Nat.le_of_ble_eq_true rfl) d_Long_numberOfTrailingZeros_14 ⟨Nat.zero_le _, Nat.zero_le _⟩ ?_
    refine lv_iadd hx hb d_Long_numberOfTrailingZeros_17 ?_
    refine lv_goto (tgt := 25) hx hb d_Long_numberOfTrailingZeros_18 (by decide) ?_
    exact ri_ hx hb hr hk (by rw [q_Long_numberOfTrailingZeros, if_pos c_1]) d_Long_numberOfTrailingZeros_25
def q_Long_bitCount (a0 : Int64) : Int32 :=
  ((Int64.toInt32 ((((((((a0 - ((ush_ a0 (1 : Int32)) &&& (6148914691236517205 : Int64))) &&& (3689348814741910323 : Int64)) + ((ush_ (a0 - ((ush_ a0 (1 : Int32)) &&& (6148914691236517205 : Int64))) (2 : Int32)) &&& (3689348814741910323 : Int64))) + (ush_ (((a0 - ((ush_ a0 (1 : Int32)) &&& (6148914691236517205 : Int64))) &&& (3689348814741910323 : Int64)) + ((ush_ (a0 - ((ush_ a0 (1 : Int32)) &&& (6148914691236517205 : Int64))) (2 : Int32)) &&& (3689348814741910323 : Int64))) (4 : Int32))) &&& (1085102592571150095 : Int64)) + (ush_ (((((a0 - ((ush_ a0 (1 : Int32)) &&& (6148914691236517205 : Int64))) &&& (3689348814741910323 : Int64)) + ((ush_ (a0 - ((ush_ a0 (1 : Int32)) &&& (6148914691236517205 : Int64))) (2 : Int32)) &&& (3689348814741910323 : Int64))) + (ush_ (((a0 - ((ush_ a0 (1 : Int32)) &&& (6148914691236517205 : Int64))) &&& (3689348814741910323 : Int64)) + ((ush_ (a0 - ((ush_ a0 (1 : Int32)) &&& (6148914691236517205 : Int64))) (2 : Int32)) &&& (3689348814741910323 : Int64))) (4 : Int32))) &&& (1085102592571150095 : Int64)) (8 : Int32))) + (ush_ ((((((a0 - ((ush_ a0 (1 : Int32)) &&& (6148914691236517205 : Int64))) &&& (3689348814741910323 : Int64)) + ((ush_ (a0 - ((ush_ a0 (1 : Int32)) &&& (6148914691236517205 : Int64))) (2 : Int32)) &&& (3689348814741910323 : Int64))) + (ush_ (((a0 - ((ush_ a0 (1 : Int32)) &&& (6148914691236517205 : Int64))) &&& (3689348814741910323 : Int64)) + ((ush_ (a0 - ((ush_ a0 (1 : Int32)) &&& (6148914691236517205 : Int64))) (2 : Int32)) &&& (3689348814741910323 : Int64))) (4 : Int32))) &&& (1085102592571150095 : Int64)) + (ush_ (((((a0 - ((ush_ a0 (1 : Int32)) &&& (6148914691236517205 : Int64))) &&& (3689348814741910323 : Int64)) + ((ush_ (a0 - ((ush_ a0 (1 : Int32)) &&& (6148914691236517205 : Int64))) (2 : Int32)) &&& (3689348814741910323 : Int64))) + (ush_ (((a0 - ((ush_ a0 (1 : Int32)) &&& (6148914691236517205 : Int64))) &&& (3689348814741910323 : Int64)) + ((ush_ (a0 - ((ush_ a0 (1 : Int32)) &&& (6148914691236517205 : Int64))) (2 : Int32)) &&& (3689348814741910323 : Int64))) (4 : Int32))) &&& (1085102592571150095 : Int64)) (8 : Int32))) (16 : Int32))) + (ush_ (((((((a0 - ((ush_ a0 (1 : Int32)) &&& (6148914691236517205 : Int64))) &&& (3689348814741910323 : Int64)) + ((ush_ (a0 - ((ush_ a0 (1 : Int32)) &&& (6148914691236517205 : Int64))) (2 : Int32)) &&& (3689348814741910323 : Int64))) + (ush_ (((a0 - ((ush_ a0 (1 : Int32)) &&& (6148914691236517205 : Int64))) &&& (3689348814741910323 : Int64)) + ((ush_ (a0 - ((ush_ a0 (1 : Int32)) &&& (6148914691236517205 : Int64))) (2 : Int32)) &&& (3689348814741910323 : Int64))) (4 : Int32))) &&& (1085102592571150095 : Int64)) + (ush_ (((((a0 - ((ush_ a0 (1 : Int32)) &&& (6148914691236517205 : Int64))) &&& (3689348814741910323 : Int64)) + ((ush_ (a0 - ((ush_ a0 (1 : Int32)) &&& (6148914691236517205 : Int64))) (2 : Int32)) &&& (3689348814741910323 : Int64))) + (ush_ (((a0 - ((ush_ a0 (1 : Int32)) &&& (6148914691236517205 : Int64))) &&& (3689348814741910323 : Int64)) + ((ush_ (a0 - ((ush_ a0 (1 : Int32)) &&& (6148914691236517205 : Int64))) (2 : Int32)) &&& (3689348814741910323 : Int64))) (4 : Int32))) &&& (1085102592571150095 : Int64)) (8 : Int32))) + (ush_ ((((((a0 - ((ush_ a0 (1 : Int32)) &&& (6148914691236517205 : Int64))) &&& (3689348814741910323 : Int64)) + ((ush_ (a0 - ((ush_ a0 (1 : Int32)) &&& (6148914691236517205 : Int64))) (2 : Int32)) &&& (3689348814741910323 : Int64))) + (ush_ (((a0 - ((ush_ a0 (1 : Int32)) &&& (6148914691236517205 : Int64))) &&& (3689348814741910323 : Int64)) + ((ush_ (a0 - ((ush_ a0 (1 : Int32)) &&& (6148914691236517205 : Int64))) (2 : Int32)) &&& (3689348814741910323 : Int64))) (4 : Int32))) &&& (1085102592571150095 : Int64)) + (ush_ (((((a0 - ((ush_ a0 (1 : Int32)) &&& (6148914691236517205 : Int64))) &&& (3689348814741910323 : Int64)) + ((ush_ (a0 - ((ush_ a0 (1 : Int32)) &&& (6148914691236517205 : Int64))) (2 : Int32)) &&& (3689348814741910323 : Int64))) + (ush_ (((a0 - ((ush_ a0 (1 : Int32)) &&& (6148914691236517205 : Int64))) &&& (3689348814741910323 : Int64)) + ((ush_ (a0 - ((ush_ a0 (1 : Int32)) &&& (6148914691236517205 : Int64))) (2 : Int32)) &&& (3689348814741910323 : Int64))) (4 : Int32))) &&& (1085102592571150095 : Int64)) (8 : Int32))) (16 : Int32))) (32 : Int32)))) &&& (127 : Int32))
theorem kB_Long_bitCount : SB y_Long_bitCount b_Long_bitCount 2 (some .int) 1 := ⟨wt_337, wt_336, wt_46, by decide +kernel⟩
set_option maxHeartbeats 4000000 in
set_option maxRecDepth 100000 in
theorem c_Long_bitCount (l : Launch) (A : Nat → Prop) (ad : Nat → Nat) (a0 : Int64) : Met l y_Long_bitCount (Cond.code y_Long_bitCount b_Long_bitCount 2 (some .int) :: BT) ({ frames := 0, cells := 0, slots := 0, locals := 0 }) (PC A ad [.long a0]) (vp_Si (fun r => r = q_Long_bitCount a0)) 0 0 (fun _ => False) := by
  refine pm_ (by decide +kernel) (Nat.le_of_ble_eq_true rfl) ?_
  intro p e s m below meth c hq hr hk ls hl
  have hx := hq.1
  have hb := hq.2.1
  have hts := hq.2.2.2.2.1
  have hl : lv_has ls 2 [(0, .long a0)] := hl
  refine lv_lload_n hx hb d_Long_bitCount_0 rfl (lv_at hl 0 rfl) ?_
  refine lv_lload_n hx hb d_Long_bitCount_1 rfl (lv_at hl 0 rfl) ?_
  refine lv_iconst (v := (1 : Int32)) hx hb d_Long_bitCount_2 (by decide) ?_
  refine lv_lushr (v := (ush_ a0 (1 : Int32))) hx hb d_Long_bitCount_3 rfl ?_
  refine lv_ldc2 (v := (6148914691236517205 : Int64)) hx hb hq.2.2.2.1 (hts _ wt_338) d_Long_bitCount_4 ?_
  refine lv_land hx hb d_Long_bitCount_7 ?_
  refine lv_lsub hx hb d_Long_bitCount_8 ?_
  refine lv_lstore_n (lv' := [(0, .long (a0 - ((ush_ a0 (1 : Int32)) &&& (6148914691236517205 : Int64))))]) hx hb d_Long_bitCount_9 rfl hl (by decide) rfl (fun ls hl => ?_)
  refine lv_lload_n hx hb d_Long_bitCount_10 rfl (lv_at hl 0 rfl) ?_
  refine lv_ldc2 (v := (3689348814741910323 : Int64)) hx hb hq.2.2.2.1 (hts _ wt_339) d_Long_bitCount_11 ?_
  refine lv_land hx hb d_Long_bitCount_14 ?_
  refine lv_lload_n hx hb d_Long_bitCount_15 rfl (lv_at hl 0 rfl) ?_
  refine lv_iconst (v := (2 : Int32)) hx hb d_Long_bitCount_16 (by decide) ?_
  refine lv_lushr (v := (ush_ (a0 - ((ush_ a0 (1 : Int32)) &&& (6148914691236517205 : Int64))) (2 : Int32))) hx hb d_Long_bitCount_17 rfl ?_
  refine lv_ldc2 (v := (3689348814741910323 : Int64)) hx hb hq.2.2.2.1 (hts _ wt_339) d_Long_bitCount_18 ?_
  refine lv_land hx hb d_Long_bitCount_21 ?_
  refine lv_ladd hx hb d_Long_bitCount_22 ?_
  refine lv_lstore_n (lv' := [(0, .long (((a0 - ((ush_ a0 (1 : Int32)) &&& (6148914691236517205 : Int64))) &&& (3689348814741910323 : Int64)) + ((ush_ (a0 - ((ush_ a0 (1 : Int32)) &&& (6148914691236517205 : Int64))) (2 : Int32)) &&& (3689348814741910323 : Int64))))]) hx hb d_Long_bitCount_23 rfl hl (by decide) rfl (fun ls hl => ?_)
  refine lv_lload_n hx hb d_Long_bitCount_24 rfl (lv_at hl 0 rfl) ?_
  refine lv_lload_n hx hb d_Long_bitCount_25 rfl (lv_at hl 0 rfl) ?_
  refine lv_iconst (v := (4 : Int32)) hx hb d_Long_bitCount_26 (by decide) ?_
  refine lv_lushr (v := (ush_ (((a0 - ((ush_ a0 (1 : Int32)) &&& (6148914691236517205 : Int64))) &&& (3689348814741910323 : Int64)) + ((ush_ (a0 - ((ush_ a0 (1 : Int32)) &&& (6148914691236517205 : Int64))) (2 : Int32)) &&& (3689348814741910323 : Int64))) (4 : Int32))) hx hb d_Long_bitCount_27 rfl ?_
  refine lv_ladd hx hb d_Long_bitCount_28 ?_
  refine lv_ldc2 (v := (1085102592571150095 : Int64)) hx hb hq.2.2.2.1 (hts _ wt_340) d_Long_bitCount_29 ?_
  refine lv_land hx hb d_Long_bitCount_32 ?_
  refine lv_lstore_n (lv' := [(0, .long (((((a0 - ((ush_ a0 (1 : Int32)) &&& (6148914691236517205 : Int64))) &&& (3689348814741910323 : Int64)) + ((ush_ (a0 - ((ush_ a0 (1 : Int32)) &&& (6148914691236517205 : Int64))) (2 : Int32)) &&& (3689348814741910323 : Int64))) + (ush_ (((a0 - ((ush_ a0 (1 : Int32)) &&& (6148914691236517205 : Int64))) &&& (3689348814741910323 : Int64)) + ((ush_ (a0 - ((ush_ a0 (1 : Int32)) &&& (6148914691236517205 : Int64))) (2 : Int32)) &&& (3689348814741910323 : Int64))) (4 : Int32))) &&& (1085102592571150095 : Int64)))]) hx hb d_Long_bitCount_33 rfl hl (by decide) rfl (fun ls hl => ?_)
  refine lv_lload_n hx hb d_Long_bitCount_34 rfl (lv_at hl 0 rfl) ?_
  refine lv_lload_n hx hb d_Long_bitCount_35 rfl (lv_at hl 0 rfl) ?_
  refine lv_bipush (v := (8 : Int32)) hx hb d_Long_bitCount_36 (by decide) ?_
  refine lv_lushr (v := (ush_ (((((a0 - ((ush_ a0 (1 : Int32)) &&& (6148914691236517205 : Int64))) &&& (3689348814741910323 : Int64)) + ((ush_ (a0 - ((ush_ a0 (1 : Int32)) &&& (6148914691236517205 : Int64))) (2 : Int32)) &&& (3689348814741910323 : Int64))) + (ush_ (((a0 - ((ush_ a0 (1 : Int32)) &&& (6148914691236517205 : Int64))) &&& (3689348814741910323 : Int64)) + ((ush_ (a0 - ((ush_ a0 (1 : Int32)) &&& (6148914691236517205 : Int64))) (2 : Int32)) &&& (3689348814741910323 : Int64))) (4 : Int32))) &&& (1085102592571150095 : Int64)) (8 : Int32))) hx hb d_Long_bitCount_38 rfl ?_
  refine lv_ladd hx hb d_Long_bitCount_39 ?_
  refine lv_lstore_n (lv' := [(0, .long ((((((a0 - ((ush_ a0 (1 : Int32)) &&& (6148914691236517205 : Int64))) &&& (3689348814741910323 : Int64)) + ((ush_ (a0 - ((ush_ a0 (1 : Int32)) &&& (6148914691236517205 : Int64))) (2 : Int32)) &&& (3689348814741910323 : Int64))) + (ush_ (((a0 - ((ush_ a0 (1 : Int32)) &&& (6148914691236517205 : Int64))) &&& (3689348814741910323 : Int64)) + ((ush_ (a0 - ((ush_ a0 (1 : Int32)) &&& (6148914691236517205 : Int64))) (2 : Int32)) &&& (3689348814741910323 : Int64))) (4 : Int32))) &&& (1085102592571150095 : Int64)) + (ush_ (((((a0 - ((ush_ a0 (1 : Int32)) &&& (6148914691236517205 : Int64))) &&& (3689348814741910323 : Int64)) + ((ush_ (a0 - ((ush_ a0 (1 : Int32)) &&& (6148914691236517205 : Int64))) (2 : Int32)) &&& (3689348814741910323 : Int64))) + (ush_ (((a0 - ((ush_ a0 (1 : Int32)) &&& (6148914691236517205 : Int64))) &&& (3689348814741910323 : Int64)) + ((ush_ (a0 - ((ush_ a0 (1 : Int32)) &&& (6148914691236517205 : Int64))) (2 : Int32)) &&& (3689348814741910323 : Int64))) (4 : Int32))) &&& (1085102592571150095 : Int64)) (8 : Int32))))]) hx hb d_Long_bitCount_40 rfl hl (by decide) rfl (fun ls hl => ?_)
  refine lv_lload_n hx hb d_Long_bitCount_41 rfl (lv_at hl 0 rfl) ?_
  refine lv_lload_n hx hb d_Long_bitCount_42 rfl (lv_at hl 0 rfl) ?_
  refine lv_bipush (v := (16 : Int32)) hx hb d_Long_bitCount_43 (by decide) ?_
  refine lv_lushr (v := (ush_ ((((((a0 - ((ush_ a0 (1 : Int32)) &&& (6148914691236517205 : Int64))) &&& (3689348814741910323 : Int64)) + ((ush_ (a0 - ((ush_ a0 (1 : Int32)) &&& (6148914691236517205 : Int64))) (2 : Int32)) &&& (3689348814741910323 : Int64))) + (ush_ (((a0 - ((ush_ a0 (1 : Int32)) &&& (6148914691236517205 : Int64))) &&& (3689348814741910323 : Int64)) + ((ush_ (a0 - ((ush_ a0 (1 : Int32)) &&& (6148914691236517205 : Int64))) (2 : Int32)) &&& (3689348814741910323 : Int64))) (4 : Int32))) &&& (1085102592571150095 : Int64)) + (ush_ (((((a0 - ((ush_ a0 (1 : Int32)) &&& (6148914691236517205 : Int64))) &&& (3689348814741910323 : Int64)) + ((ush_ (a0 - ((ush_ a0 (1 : Int32)) &&& (6148914691236517205 : Int64))) (2 : Int32)) &&& (3689348814741910323 : Int64))) + (ush_ (((a0 - ((ush_ a0 (1 : Int32)) &&& (6148914691236517205 : Int64))) &&& (3689348814741910323 : Int64)) + ((ush_ (a0 - ((ush_ a0 (1 : Int32)) &&& (6148914691236517205 : Int64))) (2 : Int32)) &&& (3689348814741910323 : Int64))) (4 : Int32))) &&& (1085102592571150095 : Int64)) (8 : Int32))) (16 : Int32))) hx hb d_Long_bitCount_45 rfl ?_
  refine lv_ladd hx hb d_Long_bitCount_46 ?_
  refine lv_lstore_n (lv' := [(0, .long (((((((a0 - ((ush_ a0 (1 : Int32)) &&& (6148914691236517205 : Int64))) &&& (3689348814741910323 : Int64)) + ((ush_ (a0 - ((ush_ a0 (1 : Int32)) &&& (6148914691236517205 : Int64))) (2 : Int32)) &&& (3689348814741910323 : Int64))) + (ush_ (((a0 - ((ush_ a0 (1 : Int32)) &&& (6148914691236517205 : Int64))) &&& (3689348814741910323 : Int64)) + ((ush_ (a0 - ((ush_ a0 (1 : Int32)) &&& (6148914691236517205 : Int64))) (2 : Int32)) &&& (3689348814741910323 : Int64))) (4 : Int32))) &&& (1085102592571150095 : Int64)) + (ush_ (((((a0 - ((ush_ a0 (1 : Int32)) &&& (6148914691236517205 : Int64))) &&& (3689348814741910323 : Int64)) + ((ush_ (a0 - ((ush_ a0 (1 : Int32)) &&& (6148914691236517205 : Int64))) (2 : Int32)) &&& (3689348814741910323 : Int64))) + (ush_ (((a0 - ((ush_ a0 (1 : Int32)) &&& (6148914691236517205 : Int64))) &&& (3689348814741910323 : Int64)) + ((ush_ (a0 - ((ush_ a0 (1 : Int32)) &&& (6148914691236517205 : Int64))) (2 : Int32)) &&& (3689348814741910323 : Int64))) (4 : Int32))) &&& (1085102592571150095 : Int64)) (8 : Int32))) + (ush_ ((((((a0 - ((ush_ a0 (1 : Int32)) &&& (6148914691236517205 : Int64))) &&& (3689348814741910323 : Int64)) + ((ush_ (a0 - ((ush_ a0 (1 : Int32)) &&& (6148914691236517205 : Int64))) (2 : Int32)) &&& (3689348814741910323 : Int64))) + (ush_ (((a0 - ((ush_ a0 (1 : Int32)) &&& (6148914691236517205 : Int64))) &&& (3689348814741910323 : Int64)) + ((ush_ (a0 - ((ush_ a0 (1 : Int32)) &&& (6148914691236517205 : Int64))) (2 : Int32)) &&& (3689348814741910323 : Int64))) (4 : Int32))) &&& (1085102592571150095 : Int64)) + (ush_ (((((a0 - ((ush_ a0 (1 : Int32)) &&& (6148914691236517205 : Int64))) &&& (3689348814741910323 : Int64)) + ((ush_ (a0 - ((ush_ a0 (1 : Int32)) &&& (6148914691236517205 : Int64))) (2 : Int32)) &&& (3689348814741910323 : Int64))) + (ush_ (((a0 - ((ush_ a0 (1 : Int32)) &&& (6148914691236517205 : Int64))) &&& (3689348814741910323 : Int64)) + ((ush_ (a0 - ((ush_ a0 (1 : Int32)) &&& (6148914691236517205 : Int64))) (2 : Int32)) &&& (3689348814741910323 : Int64))) (4 : Int32))) &&& (1085102592571150095 : Int64)) (8 : Int32))) (16 : Int32))))]) hx hb d_Long_bitCount_47 rfl hl (by decide) rfl (fun ls hl => ?_)
  refine lv_lload_n hx hb d_Long_bitCount_48 rfl (lv_at hl 0 rfl) ?_
  refine lv_lload_n hx hb d_Long_bitCount_49 rfl (lv_at hl 0 rfl) ?_
  refine lv_bipush (v := (32 : Int32)) hx hb d_Long_bitCount_50 (by decide) ?_
  refine lv_lushr (v := (ush_ (((((((a0 - ((ush_ a0 (1 : Int32)) &&& (6148914691236517205 : Int64))) &&& (3689348814741910323 : Int64)) + ((ush_ (a0 - ((ush_ a0 (1 : Int32)) &&& (6148914691236517205 : Int64))) (2 : Int32)) &&& (3689348814741910323 : Int64))) + (ush_ (((a0 - ((ush_ a0 (1 : Int32)) &&& (6148914691236517205 : Int64))) &&& (3689348814741910323 : Int64)) + ((ush_ (a0 - ((ush_ a0 (1 : Int32)) &&& (6148914691236517205 : Int64))) (2 : Int32)) &&& (3689348814741910323 : Int64))) (4 : Int32))) &&& (1085102592571150095 : Int64)) + (ush_ (((((a0 - ((ush_ a0 (1 : Int32)) &&& (6148914691236517205 : Int64))) &&& (3689348814741910323 : Int64)) + ((ush_ (a0 - ((ush_ a0 (1 : Int32)) &&& (6148914691236517205 : Int64))) (2 : Int32)) &&& (3689348814741910323 : Int64))) + (ush_ (((a0 - ((ush_ a0 (1 : Int32)) &&& (6148914691236517205 : Int64))) &&& (3689348814741910323 : Int64)) + ((ush_ (a0 - ((ush_ a0 (1 : Int32)) &&& (6148914691236517205 : Int64))) (2 : Int32)) &&& (3689348814741910323 : Int64))) (4 : Int32))) &&& (1085102592571150095 : Int64)) (8 : Int32))) + (ush_ ((((((a0 - ((ush_ a0 (1 : Int32)) &&& (6148914691236517205 : Int64))) &&& (3689348814741910323 : Int64)) + ((ush_ (a0 - ((ush_ a0 (1 : Int32)) &&& (6148914691236517205 : Int64))) (2 : Int32)) &&& (3689348814741910323 : Int64))) + (ush_ (((a0 - ((ush_ a0 (1 : Int32)) &&& (6148914691236517205 : Int64))) &&& (3689348814741910323 : Int64)) + ((ush_ (a0 - ((ush_ a0 (1 : Int32)) &&& (6148914691236517205 : Int64))) (2 : Int32)) &&& (3689348814741910323 : Int64))) (4 : Int32))) &&& (1085102592571150095 : Int64)) + (ush_ (((((a0 - ((ush_ a0 (1 : Int32)) &&& (6148914691236517205 : Int64))) &&& (3689348814741910323 : Int64)) + ((ush_ (a0 - ((ush_ a0 (1 : Int32)) &&& (6148914691236517205 : Int64))) (2 : Int32)) &&& (3689348814741910323 : Int64))) + (ush_ (((a0 - ((ush_ a0 (1 : Int32)) &&& (6148914691236517205 : Int64))) &&& (3689348814741910323 : Int64)) + ((ush_ (a0 - ((ush_ a0 (1 : Int32)) &&& (6148914691236517205 : Int64))) (2 : Int32)) &&& (3689348814741910323 : Int64))) (4 : Int32))) &&& (1085102592571150095 : Int64)) (8 : Int32))) (16 : Int32))) (32 : Int32))) hx hb d_Long_bitCount_52 rfl ?_
  refine lv_ladd hx hb d_Long_bitCount_53 ?_
  refine lv_lstore_n (lv' := [(0, .long ((((((((a0 - ((ush_ a0 (1 : Int32)) &&& (6148914691236517205 : Int64))) &&& (3689348814741910323 : Int64)) + ((ush_ (a0 - ((ush_ a0 (1 : Int32)) &&& (6148914691236517205 : Int64))) (2 : Int32)) &&& (3689348814741910323 : Int64))) + (ush_ (((a0 - ((ush_ a0 (1 : Int32)) &&& (6148914691236517205 : Int64))) &&& (3689348814741910323 : Int64)) + ((ush_ (a0 - ((ush_ a0 (1 : Int32)) &&& (6148914691236517205 : Int64))) (2 : Int32)) &&& (3689348814741910323 : Int64))) (4 : Int32))) &&& (1085102592571150095 : Int64)) + (ush_ (((((a0 - ((ush_ a0 (1 : Int32)) &&& (6148914691236517205 : Int64))) &&& (3689348814741910323 : Int64)) + ((ush_ (a0 - ((ush_ a0 (1 : Int32)) &&& (6148914691236517205 : Int64))) (2 : Int32)) &&& (3689348814741910323 : Int64))) + (ush_ (((a0 - ((ush_ a0 (1 : Int32)) &&& (6148914691236517205 : Int64))) &&& (3689348814741910323 : Int64)) + ((ush_ (a0 - ((ush_ a0 (1 : Int32)) &&& (6148914691236517205 : Int64))) (2 : Int32)) &&& (3689348814741910323 : Int64))) (4 : Int32))) &&& (1085102592571150095 : Int64)) (8 : Int32))) + (ush_ ((((((a0 - ((ush_ a0 (1 : Int32)) &&& (6148914691236517205 : Int64))) &&& (3689348814741910323 : Int64)) + ((ush_ (a0 - ((ush_ a0 (1 : Int32)) &&& (6148914691236517205 : Int64))) (2 : Int32)) &&& (3689348814741910323 : Int64))) + (ush_ (((a0 - ((ush_ a0 (1 : Int32)) &&& (6148914691236517205 : Int64))) &&& (3689348814741910323 : Int64)) + ((ush_ (a0 - ((ush_ a0 (1 : Int32)) &&& (6148914691236517205 : Int64))) (2 : Int32)) &&& (3689348814741910323 : Int64))) (4 : Int32))) &&& (1085102592571150095 : Int64)) + (ush_ (((((a0 - ((ush_ a0 (1 : Int32)) &&& (6148914691236517205 : Int64))) &&& (3689348814741910323 : Int64)) + ((ush_ (a0 - ((ush_ a0 (1 : Int32)) &&& (6148914691236517205 : Int64))) (2 : Int32)) &&& (3689348814741910323 : Int64))) + (ush_ (((a0 - ((ush_ a0 (1 : Int32)) &&& (6148914691236517205 : Int64))) &&& (3689348814741910323 : Int64)) + ((ush_ (a0 - ((ush_ a0 (1 : Int32)) &&& (6148914691236517205 : Int64))) (2 : Int32)) &&& (3689348814741910323 : Int64))) (4 : Int32))) &&& (1085102592571150095 : Int64)) (8 : Int32))) (16 : Int32))) + (ush_ (((((((a0 - ((ush_ a0 (1 : Int32)) &&& (6148914691236517205 : Int64))) &&& (3689348814741910323 : Int64)) + ((ush_ (a0 - ((ush_ a0 (1 : Int32)) &&& (6148914691236517205 : Int64))) (2 : Int32)) &&& (3689348814741910323 : Int64))) + (ush_ (((a0 - ((ush_ a0 (1 : Int32)) &&& (6148914691236517205 : Int64))) &&& (3689348814741910323 : Int64)) + ((ush_ (a0 - ((ush_ a0 (1 : Int32)) &&& (6148914691236517205 : Int64))) (2 : Int32)) &&& (3689348814741910323 : Int64))) (4 : Int32))) &&& (1085102592571150095 : Int64)) + (ush_ (((((a0 - ((ush_ a0 (1 : Int32)) &&& (6148914691236517205 : Int64))) &&& (3689348814741910323 : Int64)) + ((ush_ (a0 - ((ush_ a0 (1 : Int32)) &&& (6148914691236517205 : Int64))) (2 : Int32)) &&& (3689348814741910323 : Int64))) + (ush_ (((a0 - ((ush_ a0 (1 : Int32)) &&& (6148914691236517205 : Int64))) &&& (3689348814741910323 : Int64)) + ((ush_ (a0 - ((ush_ a0 (1 : Int32)) &&& (6148914691236517205 : Int64))) (2 : Int32)) &&& (3689348814741910323 : Int64))) (4 : Int32))) &&& (1085102592571150095 : Int64)) (8 : Int32))) + (ush_ ((((((a0 - ((ush_ a0 (1 : Int32)) &&& (6148914691236517205 : Int64))) &&& (3689348814741910323 : Int64)) + ((ush_ (a0 - ((ush_ a0 (1 : Int32)) &&& (6148914691236517205 : Int64))) (2 : Int32)) &&& (3689348814741910323 : Int64))) + (ush_ (((a0 - ((ush_ a0 (1 : Int32)) &&& (6148914691236517205 : Int64))) &&& (3689348814741910323 : Int64)) + ((ush_ (a0 - ((ush_ a0 (1 : Int32)) &&& (6148914691236517205 : Int64))) (2 : Int32)) &&& (3689348814741910323 : Int64))) (4 : Int32))) &&& (1085102592571150095 : Int64)) + (ush_ (((((a0 - ((ush_ a0 (1 : Int32)) &&& (6148914691236517205 : Int64))) &&& (3689348814741910323 : Int64)) + ((ush_ (a0 - ((ush_ a0 (1 : Int32)) &&& (6148914691236517205 : Int64))) (2 : Int32)) &&& (3689348814741910323 : Int64))) + (ush_ (((a0 - ((ush_ a0 (1 : Int32)) &&& (6148914691236517205 : Int64))) &&& (3689348814741910323 : Int64)) + ((ush_ (a0 - ((ush_ a0 (1 : Int32)) &&& (6148914691236517205 : Int64))) (2 : Int32)) &&& (3689348814741910323 : Int64))) (4 : Int32))) &&& (1085102592571150095 : Int64)) (8 : Int32))) (16 : Int32))) (32 : Int32))))]) hx hb d_Long_bitCount_54 rfl hl (by decide) rfl (fun ls hl => ?_)
  refine lv_lload_n hx hb d_Long_bitCount_55 rfl (lv_at hl 0 rfl) ?_
  refine lv_l2i (v := (Int64.toInt32 ((((((((a0 - ((ush_ a0 (1 : Int32)) &&& (6148914691236517205 : Int64))) &&& (3689348814741910323 : Int64)) + ((ush_ (a0 - ((ush_ a0 (1 : Int32)) &&& (6148914691236517205 : Int64))) (2 : Int32)) &&& (3689348814741910323 : Int64))) + (ush_ (((a0 - ((ush_ a0 (1 : Int32)) &&& (6148914691236517205 : Int64))) &&& (3689348814741910323 : Int64)) + ((ush_ (a0 - ((ush_ a0 (1 : Int32)) &&& (6148914691236517205 : Int64))) (2 : Int32)) &&& (3689348814741910323 : Int64))) (4 : Int32))) &&& (1085102592571150095 : Int64)) + (ush_ (((((a0 - ((ush_ a0 (1 : Int32)) &&& (6148914691236517205 : Int64))) &&& (3689348814741910323 : Int64)) + ((ush_ (a0 - ((ush_ a0 (1 : Int32)) &&& (6148914691236517205 : Int64))) (2 : Int32)) &&& (3689348814741910323 : Int64))) + (ush_ (((a0 - ((ush_ a0 (1 : Int32)) &&& (6148914691236517205 : Int64))) &&& (3689348814741910323 : Int64)) + ((ush_ (a0 - ((ush_ a0 (1 : Int32)) &&& (6148914691236517205 : Int64))) (2 : Int32)) &&& (3689348814741910323 : Int64))) (4 : Int32))) &&& (1085102592571150095 : Int64)) (8 : Int32))) + (ush_ ((((((a0 - ((ush_ a0 (1 : Int32)) &&& (6148914691236517205 : Int64))) &&& (3689348814741910323 : Int64)) + ((ush_ (a0 - ((ush_ a0 (1 : Int32)) &&& (6148914691236517205 : Int64))) (2 : Int32)) &&& (3689348814741910323 : Int64))) + (ush_ (((a0 - ((ush_ a0 (1 : Int32)) &&& (6148914691236517205 : Int64))) &&& (3689348814741910323 : Int64)) + ((ush_ (a0 - ((ush_ a0 (1 : Int32)) &&& (6148914691236517205 : Int64))) (2 : Int32)) &&& (3689348814741910323 : Int64))) (4 : Int32))) &&& (1085102592571150095 : Int64)) + (ush_ (((((a0 - ((ush_ a0 (1 : Int32)) &&& (6148914691236517205 : Int64))) &&& (3689348814741910323 : Int64)) + ((ush_ (a0 - ((ush_ a0 (1 : Int32)) &&& (6148914691236517205 : Int64))) (2 : Int32)) &&& (3689348814741910323 : Int64))) + (ush_ (((a0 - ((ush_ a0 (1 : Int32)) &&& (6148914691236517205 : Int64))) &&& (3689348814741910323 : Int64)) + ((ush_ (a0 - ((ush_ a0 (1 : Int32)) &&& (6148914691236517205 : Int64))) (2 : Int32)) &&& (3689348814741910323 : Int64))) (4 : Int32))) &&& (1085102592571150095 : Int64)) (8 : Int32))) (16 : Int32))) + (ush_ (((((((a0 - ((ush_ a0 (1 : Int32)) &&& (6148914691236517205 : Int64))) &&& (3689348814741910323 : Int64)) + ((ush_ (a0 - ((ush_ a0 (1 : Int32)) &&& (6148914691236517205 : Int64))) (2 : Int32)) &&& (3689348814741910323 : Int64))) + (ush_ (((a0 - ((ush_ a0 (1 : Int32)) &&& (6148914691236517205 : Int64))) &&& (3689348814741910323 : Int64)) + ((ush_ (a0 - ((ush_ a0 (1 : Int32)) &&& (6148914691236517205 : Int64))) (2 : Int32)) &&& (3689348814741910323 : Int64))) (4 : Int32))) &&& (1085102592571150095 : Int64)) + (ush_ (((((a0 - ((ush_ a0 (1 : Int32)) &&& (6148914691236517205 : Int64))) &&& (3689348814741910323 : Int64)) + ((ush_ (a0 - ((ush_ a0 (1 : Int32)) &&& (6148914691236517205 : Int64))) (2 : Int32)) &&& (3689348814741910323 : Int64))) + (ush_ (((a0 - ((ush_ a0 (1 : Int32)) &&& (6148914691236517205 : Int64))) &&& (3689348814741910323 : Int64)) + ((ush_ (a0 - ((ush_ a0 (1 : Int32)) &&& (6148914691236517205 : Int64))) (2 : Int32)) &&& (3689348814741910323 : Int64))) (4 : Int32))) &&& (1085102592571150095 : Int64)) (8 : Int32))) + (ush_ ((((((a0 - ((ush_ a0 (1 : Int32)) &&& (6148914691236517205 : Int64))) &&& (3689348814741910323 : Int64)) + ((ush_ (a0 - ((ush_ a0 (1 : Int32)) &&& (6148914691236517205 : Int64))) (2 : Int32)) &&& (3689348814741910323 : Int64))) + (ush_ (((a0 - ((ush_ a0 (1 : Int32)) &&& (6148914691236517205 : Int64))) &&& (3689348814741910323 : Int64)) + ((ush_ (a0 - ((ush_ a0 (1 : Int32)) &&& (6148914691236517205 : Int64))) (2 : Int32)) &&& (3689348814741910323 : Int64))) (4 : Int32))) &&& (1085102592571150095 : Int64)) + (ush_ (((((a0 - ((ush_ a0 (1 : Int32)) &&& (6148914691236517205 : Int64))) &&& (3689348814741910323 : Int64)) + ((ush_ (a0 - ((ush_ a0 (1 : Int32)) &&& (6148914691236517205 : Int64))) (2 : Int32)) &&& (3689348814741910323 : Int64))) + (ush_ (((a0 - ((ush_ a0 (1 : Int32)) &&& (6148914691236517205 : Int64))) &&& (3689348814741910323 : Int64)) + ((ush_ (a0 - ((ush_ a0 (1 : Int32)) &&& (6148914691236517205 : Int64))) (2 : Int32)) &&& (3689348814741910323 : Int64))) (4 : Int32))) &&& (1085102592571150095 : Int64)) (8 : Int32))) (16 : Int32))) (32 : Int32))))) hx hb d_Long_bitCount_56 rfl ?_
  refine lv_bipush (v := (127 : Int32)) hx hb d_Long_bitCount_57 (by decide) ?_
  refine lv_iand hx hb d_Long_bitCount_59 ?_
  exact ri_ hx hb hr hk (by rw [q_Long_bitCount]) d_Long_bitCount_60
def q_Integer_rotateLeft (a0 : Int32) (a1 : Int32) : Int32 :=
  ((a0 <<< (a1 &&& 31)) ||| (iush_ a0 (-a1)))
theorem kB_Integer_rotateLeft : SB y_Integer_rotateLeft b_Integer_rotateLeft 2 (some .int) 2 := ⟨wt_376, wt_375, wt_47, by decide +kernel⟩
set_option maxHeartbeats 4000000 in
set_option maxRecDepth 100000 in
theorem c_Integer_rotateLeft (l : Launch) (A : Nat → Prop) (ad : Nat → Nat) (a0 : Int32) (a1 : Int32) : Met l y_Integer_rotateLeft (Cond.code y_Integer_rotateLeft b_Integer_rotateLeft 2 (some .int) :: BT) ({ frames := 0, cells := 0, slots := 0, locals := 0 }) (PC A ad [.int a0, .int a1]) (vp_Si (fun r => r = q_Integer_rotateLeft a0 a1)) 0 0 (fun _ => False) := by
  refine pm_ (by decide +kernel) (Nat.le_of_ble_eq_true rfl) ?_
  intro p e s m below meth c hq hr hk ls hl
  have hx := hq.1
  have hb := hq.2.1
  have hts := hq.2.2.2.2.1
  have hl : lv_has ls 2 [(0, .int a0), (1, .int a1)] := hl
  refine lv_iload_n hx hb d_Integer_rotateLeft_0 rfl (lv_at hl 0 rfl) ?_
  refine lv_iload_n hx hb d_Integer_rotateLeft_1 rfl (lv_at hl 1 rfl) ?_
  refine lv_ishl hx hb d_Integer_rotateLeft_2 ?_
  refine lv_iload_n hx hb d_Integer_rotateLeft_3 rfl (lv_at hl 0 rfl) ?_
  refine lv_iload_n hx hb d_Integer_rotateLeft_4 rfl (lv_at hl 1 rfl) ?_
  refine lv_ineg hx hb d_Integer_rotateLeft_5 ?_
  refine lv_iushr (v := (iush_ a0 (-a1))) hx hb d_Integer_rotateLeft_6 rfl ?_
  refine lv_ior hx hb d_Integer_rotateLeft_7 ?_
  exact ri_ hx hb hr hk (by rw [q_Integer_rotateLeft]) d_Integer_rotateLeft_8
def q_Long_rotateLeft (a0 : Int64) (a1 : Int32) : Int64 :=
  ((shl_ a0 a1) ||| (ush_ a0 (-a1)))
theorem kB_Long_rotateLeft : SB y_Long_rotateLeft b_Long_rotateLeft 3 (some .long) 2 := ⟨wt_379, wt_378, wt_46, by decide +kernel⟩
set_option maxHeartbeats 4000000 in
set_option maxRecDepth 100000 in
theorem c_Long_rotateLeft (l : Launch) (A : Nat → Prop) (ad : Nat → Nat) (a0 : Int64) (a1 : Int32) : Met l y_Long_rotateLeft (Cond.code y_Long_rotateLeft b_Long_rotateLeft 3 (some .long) :: BT) ({ frames := 0, cells := 0, slots := 0, locals := 0 }) (PC A ad [.long a0, .int a1]) (vp_Sl (fun r => r = q_Long_rotateLeft a0 a1)) 0 0 (fun _ => False) := by
  refine pm_ (by decide +kernel) (Nat.le_of_ble_eq_true rfl) ?_
  intro p e s m below meth c hq hr hk ls hl
  have hx := hq.1
  have hb := hq.2.1
  have hts := hq.2.2.2.2.1
  have hl : lv_has ls 3 [(0, .long a0), (2, .int a1)] := hl
  refine lv_lload_n hx hb d_Long_rotateLeft_0 rfl (lv_at hl 0 rfl) ?_
  refine lv_iload_n hx hb d_Long_rotateLeft_1 rfl (lv_at hl 1 rfl) ?_
  refine lv_lshl (v := (shl_ a0 a1)) hx hb d_Long_rotateLeft_2 rfl ?_
  refine lv_lload_n hx hb d_Long_rotateLeft_3 rfl (lv_at hl 0 rfl) ?_
  refine lv_iload_n hx hb d_Long_rotateLeft_4 rfl (lv_at hl 1 rfl) ?_
  refine lv_ineg hx hb d_Long_rotateLeft_5 ?_
  refine lv_lushr (v := (ush_ a0 (-a1))) hx hb d_Long_rotateLeft_6 rfl ?_
  refine lv_lor hx hb d_Long_rotateLeft_7 ?_
  exact rl_ hx hb hr hk (by rw [q_Long_rotateLeft]) d_Long_rotateLeft_8
def q_Math_multiplyHigh (a0 : Int64) (a1 : Int64) : Int64 :=
  ((((shr_ a0 (32 : Int32)) * (shr_ a1 (32 : Int32))) + (shr_ (((shr_ a0 (32 : Int32)) * (a1 &&& (4294967295 : Int64))) + (ush_ ((a0 &&& (4294967295 : Int64)) * (a1 &&& (4294967295 : Int64))) (32 : Int32))) (32 : Int32))) + (shr_ (((((shr_ a0 (32 : Int32)) * (a1 &&& (4294967295 : Int64))) + (ush_ ((a0 &&& (4294967295 : Int64)) * (a1 &&& (4294967295 : Int64))) (32 : Int32))) &&& (4294967295 : Int64)) + ((a0 &&& (4294967295 : Int64)) * (shr_ a1 (32 : Int32)))) (32 : Int32)))
theorem kB_Math_multiplyHigh : SB y_Math_multiplyHigh b_Math_multiplyHigh 20 (some .long) 2 := ⟨wt_434, wt_433, wt_48, by decide +kernel⟩
set_option maxHeartbeats 4000000 in
set_option maxRecDepth 100000 in
theorem c_Math_multiplyHigh (l : Launch) (A : Nat → Prop) (ad : Nat → Nat) (a0 : Int64) (a1 : Int64) : Met l y_Math_multiplyHigh (Cond.code y_Math_multiplyHigh b_Math_multiplyHigh 20 (some .long) :: BT) ({ frames := 0, cells := 0, slots := 0, locals := 0 }) (PC A ad [.long a0, .long a1]) (vp_Sl (fun r => r = q_Math_multiplyHigh a0 a1)) 0 0 (fun _ => False) := by
  refine pm_ (by decide +kernel) (Nat.le_of_ble_eq_true rfl) ?_
  intro p e s m below meth c hq hr hk ls hl
  have hx := hq.1
  have hb := hq.2.1
  have hts := hq.2.2.2.2.1
  have hl : lv_has ls 20 [(0, .long a0), (2, .long a1)] := hl
  refine lv_lload_n hx hb d_Math_multiplyHigh_0 rfl (lv_at hl 0 rfl) ?_
  refine lv_bipush (v := (32 : Int32)) hx hb d_Math_multiplyHigh_1 (by decide) ?_
  refine lv_lshr (v := (shr_ a0 (32 : Int32))) hx hb d_Math_multiplyHigh_3 rfl ?_
  refine lv_lstore (lv' := [(4, .long (shr_ a0 (32 : Int32))), (0, .long a0), (2, .long a1)]) hx hb d_Math_multiplyHigh_4 hl (by decide) rfl (fun ls hl => ?_)
  refine lv_lload_n hx hb d_Math_multiplyHigh_6 rfl (lv_at hl 1 rfl) ?_
  refine lv_ldc2 (v := (4294967295 : Int64)) hx hb hq.2.2.2.1 (hts _ wt_435) d_Math_multiplyHigh_7 ?_
  refine lv_land hx hb d_Math_multiplyHigh_10 ?_
  refine lv_lstore (lv' := [(6, .long (a0 &&& (4294967295 : Int64))), (4, .long (shr_ a0 (32 : Int32))), (0, .long a0), (2, .long a1)]) hx hb d_Math_multiplyHigh_11 hl (by decide) rfl (fun ls hl => ?_)
  refine lv_lload_n hx hb d_Math_multiplyHigh_13 rfl (lv_at hl 3 rfl) ?_
  refine lv_bipush (v := (32 : Int32)) hx hb d_Math_multiplyHigh_14 (by decide) ?_
  refine lv_lshr (v := (shr_ a1 (32 : Int32))) hx hb d_Math_multiplyHigh_16 rfl ?_
  refine lv_lstore (lv' := [(8, .long (shr_ a1 (32 : Int32))), (6, .long (a0 &&& (4294967295 : Int64))), (4, .long (shr_ a0 (32 : Int32))), (0, .long a0), (2, .long a1)]) hx hb d_Math_multiplyHigh_17 hl (by decide) rfl (fun ls hl => ?_)
  refine lv_lload_n hx hb d_Math_multiplyHigh_19 rfl (lv_at hl 4 rfl) ?_
  refine lv_ldc2 (v := (4294967295 : Int64)) hx hb hq.2.2.2.1 (hts _ wt_435) d_Math_multiplyHigh_20 ?_
  refine lv_land hx hb d_Math_multiplyHigh_23 ?_
  refine lv_lstore (lv' := [(10, .long (a1 &&& (4294967295 : Int64))), (8, .long (shr_ a1 (32 : Int32))), (6, .long (a0 &&& (4294967295 : Int64))), (4, .long (shr_ a0 (32 : Int32))), (0, .long a0), (2, .long a1)]) hx hb d_Math_multiplyHigh_24 hl (by decide) rfl (fun ls hl => ?_)
  refine lv_lload hx hb d_Math_multiplyHigh_26 (lv_at hl 2 rfl) ?_
  refine lv_lload hx hb d_Math_multiplyHigh_28 (lv_at hl 0 rfl) ?_
  refine lv_lmul hx hb d_Math_multiplyHigh_30 ?_
  refine lv_lstore (lv' := [(12, .long ((a0 &&& (4294967295 : Int64)) * (a1 &&& (4294967295 : Int64)))), (10, .long (a1 &&& (4294967295 : Int64))), (8, .long (shr_ a1 (32 : Int32))), (6, .long (a0 &&& (4294967295 : Int64))), (4, .long (shr_ a0 (32 : Int32))), (0, .long a0), (2, .long a1)]) hx hb d_Math_multiplyHigh_31 hl (by decide) rfl (fun ls hl => ?_)
  refine lv_lload hx hb d_Math_multiplyHigh_33 (lv_at hl 4 rfl) ?_
  refine lv_lload hx hb d_Math_multiplyHigh_35 (lv_at hl 1 rfl) ?_
  refine lv_lmul hx hb d_Math_multiplyHigh_37 ?_
  refine lv_lload hx hb d_Math_multiplyHigh_38 (lv_at hl 0 rfl) ?_
  refine lv_bipush (v := (32 : Int32)) hx hb d_Math_multiplyHigh_40 (by decide) ?_
  refine lv_lushr (v := (ush_ ((a0 &&& (4294967295 : Int64)) * (a1 &&& (4294967295 : Int64))) (32 : Int32))) hx hb d_Math_multiplyHigh_42 rfl ?_
  refine lv_ladd hx hb d_Math_multiplyHigh_43 ?_
  refine lv_lstore (lv' := [(14, .long (((shr_ a0 (32 : Int32)) * (a1 &&& (4294967295 : Int64))) + (ush_ ((a0 &&& (4294967295 : Int64)) * (a1 &&& (4294967295 : Int64))) (32 : Int32)))), (12, .long ((a0 &&& (4294967295 : Int64)) * (a1 &&& (4294967295 : Int64)))), (10, .long (a1 &&& (4294967295 : Int64))), (8, .long (shr_ a1 (32 : Int32))), (6, .long (a0 &&& (4294967295 : Int64))), (4, .long (shr_ a0 (32 : Int32))), (0, .long a0), (2, .long a1)]) hx hb d_Math_multiplyHigh_44 hl (by decide) rfl (fun ls hl => ?_)
  refine lv_lload hx hb d_Math_multiplyHigh_46 (lv_at hl 0 rfl) ?_
  refine lv_ldc2 (v := (4294967295 : Int64)) hx hb hq.2.2.2.1 (hts _ wt_435) d_Math_multiplyHigh_48 ?_
  refine lv_land hx hb d_Math_multiplyHigh_51 ?_
  refine lv_lstore (lv' := [(16, .long ((((shr_ a0 (32 : Int32)) * (a1 &&& (4294967295 : Int64))) + (ush_ ((a0 &&& (4294967295 : Int64)) * (a1 &&& (4294967295 : Int64))) (32 : Int32))) &&& (4294967295 : Int64))), (14, .long (((shr_ a0 (32 : Int32)) * (a1 &&& (4294967295 : Int64))) + (ush_ ((a0 &&& (4294967295 : Int64)) * (a1 &&& (4294967295 : Int64))) (32 : Int32)))), (12, .long ((a0 &&& (4294967295 : Int64)) * (a1 &&& (4294967295 : Int64)))), (10, .long (a1 &&& (4294967295 : Int64))), (8, .long (shr_ a1 (32 : Int32))), (6, .long (a0 &&& (4294967295 : Int64))), (4, .long (shr_ a0 (32 : Int32))), (0, .long a0), (2, .long a1)]) hx hb d_Math_multiplyHigh_52 hl (by decide) rfl (fun ls hl => ?_)
  refine lv_lload hx hb d_Math_multiplyHigh_54 (lv_at hl 1 rfl) ?_
  refine lv_bipush (v := (32 : Int32)) hx hb d_Math_multiplyHigh_56 (by decide) ?_
  refine lv_lshr (v := (shr_ (((shr_ a0 (32 : Int32)) * (a1 &&& (4294967295 : Int64))) + (ush_ ((a0 &&& (4294967295 : Int64)) * (a1 &&& (4294967295 : Int64))) (32 : Int32))) (32 : Int32))) hx hb d_Math_multiplyHigh_58 rfl ?_
  refine lv_lstore (lv' := [(18, .long (shr_ (((shr_ a0 (32 : Int32)) * (a1 &&& (4294967295 : Int64))) + (ush_ ((a0 &&& (4294967295 : Int64)) * (a1 &&& (4294967295 : Int64))) (32 : Int32))) (32 : Int32))), (16, .long ((((shr_ a0 (32 : Int32)) * (a1 &&& (4294967295 : Int64))) + (ush_ ((a0 &&& (4294967295 : Int64)) * (a1 &&& (4294967295 : Int64))) (32 : Int32))) &&& (4294967295 : Int64))), (14, .long (((shr_ a0 (32 : Int32)) * (a1 &&& (4294967295 : Int64))) + (ush_ ((a0 &&& (4294967295 : Int64)) * (a1 &&& (4294967295 : Int64))) (32 : Int32)))), (12, .long ((a0 &&& (4294967295 : Int64)) * (a1 &&& (4294967295 : Int64)))), (10, .long (a1 &&& (4294967295 : Int64))), (8, .long (shr_ a1 (32 : Int32))), (6, .long (a0 &&& (4294967295 : Int64))), (4, .long (shr_ a0 (32 : Int32))), (0, .long a0), (2, .long a1)]) hx hb d_Math_multiplyHigh_59 hl (by decide) rfl (fun ls hl => ?_)
  refine lv_lload hx hb d_Math_multiplyHigh_61 (lv_at hl 1 rfl) ?_
  refine lv_lload hx hb d_Math_multiplyHigh_63 (lv_at hl 6 rfl) ?_
  refine lv_lload hx hb d_Math_multiplyHigh_65 (lv_at hl 5 rfl) ?_
  refine lv_lmul hx hb d_Math_multiplyHigh_67 ?_
  refine lv_ladd hx hb d_Math_multiplyHigh_68 ?_
  refine lv_lstore (lv' := [(16, .long (((((shr_ a0 (32 : Int32)) * (a1 &&& (4294967295 : Int64))) + (ush_ ((a0 &&& (4294967295 : Int64)) * (a1 &&& (4294967295 : Int64))) (32 : Int32))) &&& (4294967295 : Int64)) + ((a0 &&& (4294967295 : Int64)) * (shr_ a1 (32 : Int32))))), (18, .long (shr_ (((shr_ a0 (32 : Int32)) * (a1 &&& (4294967295 : Int64))) + (ush_ ((a0 &&& (4294967295 : Int64)) * (a1 &&& (4294967295 : Int64))) (32 : Int32))) (32 : Int32))), (14, .long (((shr_ a0 (32 : Int32)) * (a1 &&& (4294967295 : Int64))) + (ush_ ((a0 &&& (4294967295 : Int64)) * (a1 &&& (4294967295 : Int64))) (32 : Int32)))), (12, .long ((a0 &&& (4294967295 : Int64)) * (a1 &&& (4294967295 : Int64)))), (10, .long (a1 &&& (4294967295 : Int64))), (8, .long (shr_ a1 (32 : Int32))), (6, .long (a0 &&& (4294967295 : Int64))), (4, .long (shr_ a0 (32 : Int32))), (0, .long a0), (2, .long a1)]) hx hb d_Math_multiplyHigh_69 hl (by decide) rfl (fun ls hl => ?_)
  refine lv_lload hx hb d_Math_multiplyHigh_71 (lv_at hl 7 rfl) ?_
  refine lv_lload hx hb d_Math_multiplyHigh_73 (lv_at hl 5 rfl) ?_
  refine lv_lmul hx hb d_Math_multiplyHigh_75 ?_
  refine lv_lload hx hb d_Math_multiplyHigh_76 (lv_at hl 1 rfl) ?_
  refine lv_ladd hx hb d_Math_multiplyHigh_78 ?_
  refine lv_lload hx hb d_Math_multiplyHigh_79 (lv_at hl 0 rfl) ?_
  refine lv_bipush (v := (32 : Int32)) hx hb d_Math_multiplyHigh_81 (by decide) ?_
  refine lv_lshr (v := (shr_ (((((shr_ a0 (32 : Int32)) * (a1 &&& (4294967295 : Int64))) + (ush_ ((a0 &&& (4294967295 : Int64)) * (a1 &&& (4294967295 : Int64))) (32 : Int32))) &&& (4294967295 : Int64)) + ((a0 &&& (4294967295 : Int64)) * (shr_ a1 (32 : Int32)))) (32 : Int32))) hx hb d_Math_multiplyHigh_83 rfl ?_
  refine lv_ladd hx hb d_Math_multiplyHigh_84 ?_
  exact rl_ hx hb hr hk (by rw [q_Math_multiplyHigh]) d_Math_multiplyHigh_85
def q_Bits_lowest (a0 : Int32) (a1 : Int64) : Int64 :=
  if a0 = (32 : Int32) then
    (a1 &&& (4294967295 : Int64))
  else
    a1
theorem kB_Bits_lowest : SB y_Bits_lowest b_Bits_lowest 3 (some .long) 2 := ⟨wt_223, wt_222, wt_45, by decide +kernel⟩
set_option maxHeartbeats 4000000 in
set_option maxRecDepth 100000 in
theorem c_Bits_lowest (l : Launch) (A : Nat → Prop) (ad : Nat → Nat) (a0 : Int32) (a1 : Int64) : Met l y_Bits_lowest (Cond.code y_Bits_lowest b_Bits_lowest 3 (some .long) :: BT) ({ frames := 0, cells := 0, slots := 0, locals := 0 }) (PC A ad [.int a0, .long a1]) (vp_Sl (fun r => r = q_Bits_lowest a0 a1)) 0 0 (fun _ => False) := by
  refine pm_ (by decide +kernel) (Nat.le_of_ble_eq_true rfl) ?_
  intro p e s m below meth c hq hr hk ls hl
  have hx := hq.1
  have hb := hq.2.1
  have hts := hq.2.2.2.2.1
  have hl : lv_has ls 3 [(0, .int a0), (1, .long a1)] := hl
  refine lv_iload_n hx hb d_Bits_lowest_0 rfl (lv_at hl 0 rfl) ?_
  refine lv_bipush (v := (32 : Int32)) hx hb d_Bits_lowest_1 (by decide) ?_
  refine lv_icmp_ne (tgt := 14) hx hb d_Bits_lowest_3 (by decide) (fun c_1 => ?_) (fun c_1 => ?_)
  · refine lv_lload_n hx hb d_Bits_lowest_14 rfl (lv_at hl 1 rfl) ?_
    exact rl_ hx hb hr hk (by rw [q_Bits_lowest, if_neg c_1]) d_Bits_lowest_15
  · refine lv_lload_n hx hb d_Bits_lowest_6 rfl (lv_at hl 1 rfl) ?_
    refine lv_ldc2 (v := (4294967295 : Int64)) hx hb hq.2.2.2.1 (hts _ wt_224) d_Bits_lowest_7 ?_
    refine lv_land hx hb d_Bits_lowest_10 ?_
    refine lv_goto (tgt := 15) hx hb d_Bits_lowest_11 (by decide) ?_
    exact rl_ hx hb hr hk (by rw [q_Bits_lowest, if_pos c_1]) d_Bits_lowest_15
def q_Bits_signed (a0 : Int32) (a1 : Int64) : Int64 :=
  if a0 = (32 : Int32) then
    (Int32.toInt64 (Int64.toInt32 a1))
  else
    a1
theorem kB_Bits_signed : SB y_Bits_signed b_Bits_signed 3 (some .long) 2 := ⟨wt_197, wt_196, wt_45, by decide +kernel⟩
set_option maxHeartbeats 4000000 in
set_option maxRecDepth 100000 in
theorem c_Bits_signed (l : Launch) (A : Nat → Prop) (ad : Nat → Nat) (a0 : Int32) (a1 : Int64) : Met l y_Bits_signed (Cond.code y_Bits_signed b_Bits_signed 3 (some .long) :: BT) ({ frames := 0, cells := 0, slots := 0, locals := 0 }) (PC A ad [.int a0, .long a1]) (vp_Sl (fun r => r = q_Bits_signed a0 a1)) 0 0 (fun _ => False) := by
  refine pm_ (by decide +kernel) (Nat.le_of_ble_eq_true rfl) ?_
  intro p e s m below meth c hq hr hk ls hl
  have hx := hq.1
  have hb := hq.2.1
  have hts := hq.2.2.2.2.1
  have hl : lv_has ls 3 [(0, .int a0), (1, .long a1)] := hl
  refine lv_iload_n hx hb d_Bits_signed_0 rfl (lv_at hl 0 rfl) ?_
  refine lv_bipush (v := (32 : Int32)) hx hb d_Bits_signed_1 (by decide) ?_
  refine lv_icmp_ne (tgt := 12) hx hb d_Bits_signed_3 (by decide) (fun c_1 => ?_) (fun c_1 => ?_)
  · refine lv_lload_n hx hb d_Bits_signed_12 rfl (lv_at hl 1 rfl) ?_
    exact rl_ hx hb hr hk (by rw [q_Bits_signed, if_neg c_1]) d_Bits_signed_13
  · refine lv_lload_n hx hb d_Bits_signed_6 rfl (lv_at hl 1 rfl) ?_
    refine lv_l2i (v := (Int64.toInt32 a1)) hx hb d_Bits_signed_7 rfl ?_
    refine lv_i2l (v := (Int32.toInt64 (Int64.toInt32 a1))) hx hb d_Bits_signed_8 rfl ?_
    refine lv_goto (tgt := 13) hx hb d_Bits_signed_9 (by decide) ?_
    exact rl_ hx hb hr hk (by rw [q_Bits_signed, if_pos c_1]) d_Bits_signed_13
def q_Bits_marked (a0 : Int64) (a1 : Int64) : Int64 :=
  if a1 = (0 : Int64) then
    a0
  else
    (a0 ||| (1 : Int64))
theorem kB_Bits_marked : SB y_Bits_marked b_Bits_marked 4 (some .long) 2 := ⟨wt_417, wt_416, wt_45, by decide +kernel⟩
set_option maxHeartbeats 4000000 in
set_option maxRecDepth 100000 in
theorem c_Bits_marked (l : Launch) (A : Nat → Prop) (ad : Nat → Nat) (a0 : Int64) (a1 : Int64) : Met l y_Bits_marked (Cond.code y_Bits_marked b_Bits_marked 4 (some .long) :: BT) ({ frames := 0, cells := 0, slots := 0, locals := 0 }) (PC A ad [.long a0, .long a1]) (vp_Sl (fun r => r = q_Bits_marked a0 a1)) 0 0 (fun _ => False) := by
  refine pm_ (by decide +kernel) (Nat.le_of_ble_eq_true rfl) ?_
  intro p e s m below meth c hq hr hk ls hl
  have hx := hq.1
  have hb := hq.2.1
  have hts := hq.2.2.2.2.1
  have hl : lv_has ls 4 [(0, .long a0), (2, .long a1)] := hl
  refine lv_lload_n hx hb d_Bits_marked_0 rfl (lv_at hl 1 rfl) ?_
  refine lv_lconst (v := (0 : Int64)) hx hb d_Bits_marked_1 (by decide) ?_
  refine W.lcmp hx hb d_Bits_marked_2 ?_
  refine lv_if_ne (tgt := 10) hx hb d_Bits_marked_3 (by decide) (fun c_1 => ?_) (fun c_1 => ?_)
  · rw [lg_cmp_eq] at c_1
    refine lv_lload_n hx hb d_Bits_marked_10 rfl (lv_at hl 0 rfl) ?_
    refine lv_lconst (v := (1 : Int64)) hx hb d_Bits_marked_11 (by decide) ?_
    refine lv_lor hx hb d_Bits_marked_12 ?_
    exact rl_ hx hb hr hk (by rw [q_Bits_marked, if_neg c_1]) d_Bits_marked_13
  · rw [lg_cmp_eq] at c_1
    refine lv_lload_n hx hb d_Bits_marked_6 rfl (lv_at hl 0 rfl) ?_
    refine lv_goto (tgt := 13) hx hb d_Bits_marked_7 (by decide) ?_
    exact rl_ hx hb hr hk (by rw [q_Bits_marked, if_pos c_1]) d_Bits_marked_13
def q_Bits_movedDown (a0 : Int64) (a1 : Int32) : Int64 :=
  if 0 < a1 then
    if a1 < (64 : Int32) then
      (q_Bits_marked (ush_ a0 a1) (shl_ a0 ((64 : Int32) - a1)))
    else
      (q_Bits_marked (0 : Int64) a0)
  else
    a0
theorem kB_Bits_movedDown : SB y_Bits_movedDown b_Bits_movedDown 3 (some .long) 2 := ⟨wt_427, wt_426, wt_45, by decide +kernel⟩
set_option maxHeartbeats 4000000 in
set_option maxRecDepth 100000 in
theorem c_Bits_movedDown (l : Launch) (A : Nat → Prop) (ad : Nat → Nat) (a0 : Int64) (a1 : Int32) : Met l y_Bits_movedDown (Cond.code y_Bits_movedDown b_Bits_movedDown 3 (some .long) :: BT) ({ frames := 1, cells := 0, slots := 0, locals := 23 }) (PC A ad [.long a0, .int a1]) (vp_Sl (fun r => r = q_Bits_movedDown a0 a1)) 0 0 (fun _ => False) := by
  refine pm_ (by decide +kernel) (Nat.le_of_ble_eq_true rfl) ?_
  intro p e s m below meth c hq hr hk ls hl
  have hx := hq.1
  have hb := hq.2.1
  have hts := hq.2.2.2.2.1
  have hl : lv_has ls 3 [(0, .long a0), (2, .int a1)] := hl
  refine lv_iload_n hx hb d_Bits_movedDown_0 rfl (lv_at hl 1 rfl) ?_
  refine lv_if_gt (tgt := 6) hx hb d_Bits_movedDown_1 (by decide) (fun c_1 => ?_) (fun c_1 => ?_)
  · refine lv_iload_n hx hb d_Bits_movedDown_6 rfl (lv_at hl 1 rfl) ?_
    refine lv_bipush (v := (64 : Int32)) hx hb d_Bits_movedDown_7 (by decide) ?_
    refine lv_icmp_lt (tgt := 18) hx hb d_Bits_movedDown_9 (by decide) (fun c_2 => ?_) (fun c_2 => ?_)
    · refine lv_lload_n hx hb d_Bits_movedDown_18 rfl (lv_at hl 0 rfl) ?_
      refine lv_iload_n hx hb d_Bits_movedDown_19 rfl (lv_at hl 1 rfl) ?_
      refine lv_lushr (v := (ush_ a0 a1)) hx hb d_Bits_movedDown_20 rfl ?_
      refine lv_lload_n hx hb d_Bits_movedDown_21 rfl (lv_at hl 0 rfl) ?_
      refine lv_bipush (v := (64 : Int32)) hx hb d_Bits_movedDown_22 (by decide) ?_
      refine lv_iload_n hx hb d_Bits_movedDown_24 rfl (lv_at hl 1 rfl) ?_
      refine lv_isub hx hb d_Bits_movedDown_25 ?_
      refine lv_lshl (v := (shl_ a0 ((64 : Int32) - a1))) hx hb d_Bits_movedDown_26 rfl ?_
      refine sl_ (As := [.long (ush_ a0 a1), .long (shl_ a0 ((64 : Int32) - a1))]) (rest := []) hq (c_Bits_marked l A ad (ush_ a0 a1) (shl_ a0 ((64 : Int32) - a1))) kB_Bits_marked wt_428 ⟨rfl, rfl, Nat.le_of_ble_eq_true rfl, Nat.le_of_ble_eq_true rfl⟩ rfl hl.1 rfl (Nat.le_of_ble_eq_true rfl) d_Bits_movedDown_27 ⟨Nat.zero_le _, Nat.zero_le _⟩ ?_
      exact rl_ hx hb hr hk (by rw [q_Bits_movedDown, if_pos c_1, if_pos c_2]) d_Bits_movedDown_30
    · refine lv_lconst (v := (0 : Int64)) hx hb d_Bits_movedDown_12 (by decide) ?_
      refine lv_lload_n hx hb d_Bits_movedDown_13 rfl (lv_at hl 0 rfl) ?_
      refine sl_ (As := [.long (0 : Int64), .long a0]) (rest := []) hq (c_Bits_marked l A ad (0 : Int64) a0) kB_Bits_marked wt_428 ⟨rfl, rfl, Nat.le_of_ble_eq_true rfl, Nat.le_of_ble_eq_true rfl⟩ rfl hl.1 rfl (Nat.le_of_ble_eq_true rfl) d_Bits_movedDown_14 ⟨Nat.zero_le _, Nat.zero_le _⟩ ?_
      exact rl_ hx hb hr hk (by rw [q_Bits_movedDown, if_pos c_1, if_neg c_2]) d_Bits_movedDown_17
  · refine lv_lload_n hx hb d_Bits_movedDown_4 rfl (lv_at hl 0 rfl) ?_
    exact rl_ hx hb hr hk (by rw [q_Bits_movedDown, if_neg c_1]) d_Bits_movedDown_5
