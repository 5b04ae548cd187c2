def q_Ref_sum (F B : Nat) (wi : Int32) (fr : Int32) (bi : Int32) (a0 : Int64) (a1 : Int64) : Int64 :=
  if (q_Ref_isInfinite wi fr bi a0) = 0 then
    if (q_Ref_isInfinite wi fr bi a1) = 0 then
      if (q_Ref_size wi a0) = (q_Ref_size wi a1) then
        if (if (q_Ref_isMinus wi a0) = (q_Ref_isMinus wi a1) then (0 : Int32) else (1 : Int32)) = 0 then
          if (q_Ref_isZero wi (if (if (q_Ref_size wi a1) ≤ (q_Ref_size wi a0) then (0 : Int32) else (1 : Int32)) = 0 then a0 else a1)) = 0 then
            (q_Ref_signed wi (lN (rR_ F B (2 * ((0 + un_ (q_Ref_split_am wi fr bi (if (if (q_Ref_size wi a1) ≤ (q_Ref_size wi a0) then (0 : Int32) else (1 : Int32)) = 0 then a0 else a1)) * 2 ^ (wt_ (q_Ref_split_we wi fr bi (if (if (q_Ref_size wi a1) ≤ (q_Ref_size wi a0) then (0 : Int32) else (1 : Int32)) = 0 then a0 else a1)))) + un_ (q_Ref_split_am wi fr bi (if (if (q_Ref_size wi a1) ≤ (q_Ref_size wi a0) then (0 : Int32) else (1 : Int32)) = 0 then a1 else a0)) * 2 ^ (wt_ (q_Ref_split_we wi fr bi (if (if (q_Ref_size wi a1) ≤ (q_Ref_size wi a0) then (0 : Int32) else (1 : Int32)) = 0 then a1 else a0)))) + (if (0 : Int32) = 0 then 0 else 1)) (-2201))) (q_Ref_split_mi wi fr bi (if (if (q_Ref_size wi a1) ≤ (q_Ref_size wi a0) then (0 : Int32) else (1 : Int32)) = 0 then a0 else a1)))
          else
            if (q_Ref_isMinus wi a0) = 0 then
              (q_Ref_signed wi (0 : Int64) (0 : Int32))
            else
              (q_Ref_signed wi (0 : Int64) (if (q_Ref_isMinus wi a1) = 0 then (0 : Int32) else (1 : Int32)))
        else
          if (q_Ref_isMinus wi a0) = 0 then
            (q_Ref_signed wi (0 : Int64) (0 : Int32))
          else
            (q_Ref_signed wi (0 : Int64) (if (q_Ref_isMinus wi a1) = 0 then (0 : Int32) else (1 : Int32)))
      else
        if (q_Ref_isZero wi (if (if (q_Ref_size wi a1) ≤ (q_Ref_size wi a0) then (0 : Int32) else (1 : Int32)) = 0 then a0 else a1)) = 0 then
          if (if (q_Ref_isMinus wi a0) = (q_Ref_isMinus wi a1) then (0 : Int32) else (1 : Int32)) = 0 then
            (q_Ref_signed wi (lN (rR_ F B (2 * ((0 + un_ (q_Ref_split_am wi fr bi (if (if (q_Ref_size wi a1) ≤ (q_Ref_size wi a0) then (0 : Int32) else (1 : Int32)) = 0 then a0 else a1)) * 2 ^ (wt_ (q_Ref_split_we wi fr bi (if (if (q_Ref_size wi a1) ≤ (q_Ref_size wi a0) then (0 : Int32) else (1 : Int32)) = 0 then a0 else a1)))) + un_ (q_Ref_split_am wi fr bi (if (if (q_Ref_size wi a1) ≤ (q_Ref_size wi a0) then (0 : Int32) else (1 : Int32)) = 0 then a1 else a0)) * 2 ^ (wt_ (q_Ref_split_we wi fr bi (if (if (q_Ref_size wi a1) ≤ (q_Ref_size wi a0) then (0 : Int32) else (1 : Int32)) = 0 then a1 else a0)))) + (if (0 : Int32) = 0 then 0 else 1)) (-2201))) (q_Ref_split_mi wi fr bi (if (if (q_Ref_size wi a1) ≤ (q_Ref_size wi a0) then (0 : Int32) else (1 : Int32)) = 0 then a0 else a1)))
          else
            (q_Ref_signed wi (lN (rR_ F B (2 * ((0 + un_ (q_Ref_split_am wi fr bi (if (if (q_Ref_size wi a1) ≤ (q_Ref_size wi a0) then (0 : Int32) else (1 : Int32)) = 0 then a0 else a1)) * 2 ^ (wt_ (q_Ref_split_we wi fr bi (if (if (q_Ref_size wi a1) ≤ (q_Ref_size wi a0) then (0 : Int32) else (1 : Int32)) = 0 then a0 else a1)))) - un_ (q_Ref_split_am wi fr bi (if (if (q_Ref_size wi a1) ≤ (q_Ref_size wi a0) then (0 : Int32) else (1 : Int32)) = 0 then a1 else a0)) * 2 ^ (wt_ (q_Ref_split_we wi fr bi (if (if (q_Ref_size wi a1) ≤ (q_Ref_size wi a0) then (0 : Int32) else (1 : Int32)) = 0 then a1 else a0)))) + (if (0 : Int32) = 0 then 0 else 1)) (-2201))) (q_Ref_split_mi wi fr bi (if (if (q_Ref_size wi a1) ≤ (q_Ref_size wi a0) then (0 : Int32) else (1 : Int32)) = 0 then a0 else a1)))
        else
          if (q_Ref_isMinus wi a0) = 0 then
            (q_Ref_signed wi (0 : Int64) (0 : Int32))
          else
            (q_Ref_signed wi (0 : Int64) (if (q_Ref_isMinus wi a1) = 0 then (0 : Int32) else (1 : Int32)))
    else
      a1
  else
    if (q_Ref_isInfinite wi fr bi a1) = 0 then
      a0
    else
      if a0 = a1 then
        a0
      else
        (q_Ref_noNumber wi)
theorem kB_Ref_sum : RB y_Ref_sum b_Ref_sum 12 (some .long) 2 := ⟨wt_662, wt_661, wt_25, wt_36, by decide +kernel⟩
set_option maxHeartbeats 4000000 in
set_option maxRecDepth 100000 in
theorem c_Ref_sum (l : Launch) (A : Nat → Prop) (ad : Nat → Nat) (D : va_G) (cB cJ : ClassId) (o r : Nat) (hne : o ≠ r) (hA : ∀ q, rA o r q → A q) (cd : Int32) (la : Int64) (lo : Int32) (hi : Int32) (re : Int32) (wi : Int32) (fr : Int32) (bi : Int32) (mi : Int32) (am : Int64) (we : Int32) (f : Nat → Int32) (N : Nat) (hf : RowIs f N) (hI : RI lo hi N) (hre : re = 0 ∨ re = 1) (a0 : Int64) (a1 : Int64) (F B : Nat) (hfm : fmR wi fr bi F B) : Met l y_Ref_sum (Cond.code y_Ref_sum b_Ref_sum 12 (some .long) :: BT) ({ frames := 3, cells := 0, slots := 0, locals := 73 }) (PR A ad D cB cJ o r (rf_ cd la r lo hi re wi fr bi mi am we) f [.long a0, .long a1]) (QP D cB o r (fun v fs' f' => v = some (.long (q_Ref_sum F B wi fr bi a0 a1)) ∧ SJ r cd la fs' f')) 0 0 (rA o r) := by
  refine pr_ (by decide) (Nat.le_of_ble_eq_true rfl) ?_
  intro p e s m below meth c hq hP hS hr hk ls hl
  have hx := hq.1
  have hb := hq.2.1
  have hts := hq.2.2.2.2.1
  have hl : lv_has ls 12 [(0, .ref o), (1, .long a0), (3, .long a1)] := hl
  refine lv_aload_n hx hb d_Ref_sum_0 rfl (lv_at hl 0 rfl) ?_
  refine lv_lload_n hx hb d_Ref_sum_1 rfl (lv_at hl 1 rfl) ?_
  refine rv_i (As := [.long a0]) (rest := []) hq hA hP hS (c_Ref_isInfinite l A ad D cB cJ o r hne hA cd la lo hi re wi fr bi mi am we f a0) kB_Ref_isInfinite wt_583 ⟨rfl, rfl, Nat.le_of_ble_eq_true rfl, Nat.le_of_ble_eq_true rfl⟩ rfl hl.1 rfl (Nat.le_of_ble_eq_true rfl) d_Ref_sum_2 ⟨Nat.zero_le _, Nat.zero_le _⟩ (fun H locs hP hS => ?_)
  refine lv_if_ne (tgt := 16) hx hb d_Ref_sum_5 (by decide) (fun c_1 => ?_) (fun c_1 => ?_)
  · refine lv_aload_n hx hb d_Ref_sum_16 rfl (lv_at hl 0 rfl) ?_
    refine lv_lload_n hx hb d_Ref_sum_17 rfl (lv_at hl 1 rfl) ?_
    refine rv_i (As := [.long a0]) (rest := []) hq hA hP hS (c_Ref_isInfinite l A ad D cB cJ o r hne hA cd la lo hi re wi fr bi mi am we f a0) kB_Ref_isInfinite wt_583 ⟨rfl, rfl, Nat.le_of_ble_eq_true rfl, Nat.le_of_ble_eq_true rfl⟩ rfl hl.1 rfl (Nat.le_of_ble_eq_true rfl) d_Ref_sum_18 ⟨Nat.zero_le _, Nat.zero_le _⟩ (fun H locs hP hS => ?_)
    refine lv_if_eq (tgt := 45) hx hb d_Ref_sum_21 (by decide) (fun c9 => absurd c9 c_1) (fun _ => ?_)
    refine lv_aload_n hx hb d_Ref_sum_24 rfl (lv_at hl 0 rfl) ?_
    refine lv_lload_n hx hb d_Ref_sum_25 rfl (lv_at hl 2 rfl) ?_
    refine rv_i (As := [.long a1]) (rest := []) hq hA hP hS (c_Ref_isInfinite l A ad D cB cJ o r hne hA cd la lo hi re wi fr bi mi am we f a1) kB_Ref_isInfinite wt_583 ⟨rfl, rfl, Nat.le_of_ble_eq_true rfl, Nat.le_of_ble_eq_true rfl⟩ rfl hl.1 rfl (Nat.le_of_ble_eq_true rfl) d_Ref_sum_26 ⟨Nat.zero_le _, Nat.zero_le _⟩ (fun H locs hP hS => ?_)
    refine lv_if_eq (tgt := 45) hx hb d_Ref_sum_29 (by decide) (fun c_2 => ?_) (fun c_2 => ?_)
    · refine lv_aload_n hx hb d_Ref_sum_45 rfl (lv_at hl 0 rfl) ?_
      refine lv_lload_n hx hb d_Ref_sum_46 rfl (lv_at hl 1 rfl) ?_
      refine rv_i (As := [.long a0]) (rest := []) hq hA hP hS (c_Ref_isInfinite l A ad D cB cJ o r hne hA cd la lo hi re wi fr bi mi am we f a0) kB_Ref_isInfinite wt_583 ⟨rfl, rfl, Nat.le_of_ble_eq_true rfl, Nat.le_of_ble_eq_true rfl⟩ rfl hl.1 rfl (Nat.le_of_ble_eq_true rfl) d_Ref_sum_47 ⟨Nat.zero_le _, Nat.zero_le _⟩ (fun H locs hP hS => ?_)
      refine lv_if_eq (tgt := 57) hx hb d_Ref_sum_50 (by decide) (fun c9 => absurd c9 c_1) (fun _ => ?_)
      refine lv_lload_n hx hb d_Ref_sum_53 rfl (lv_at hl 1 rfl) ?_
      refine lv_goto (tgt := 58) hx hb d_Ref_sum_54 (by decide) ?_
      exact qr_l hq hr hk hP hS ⟨congrArg (fun z => some (Value.long z)) (by unfold q_Ref_sum; exact (((if_neg c_1).trans ((if_pos c_2).trans rfl))).symm), _, _, _, _, _, _, _, _, _, _, rfl, hre, hf, hI⟩ d_Ref_sum_58
    · refine lv_lload_n hx hb d_Ref_sum_32 rfl (lv_at hl 1 rfl) ?_
      refine lv_lload_n hx hb d_Ref_sum_33 rfl (lv_at hl 2 rfl) ?_
      refine W.lcmp hx hb d_Ref_sum_34 ?_
      refine lv_if_eq (tgt := 45) hx hb d_Ref_sum_35 (by decide) (fun c_3 => ?_) (fun c_3 => ?_)
      · rw [lg_cmp_eq] at c_3
        refine lv_aload_n hx hb d_Ref_sum_45 rfl (lv_at hl 0 rfl) ?_
        refine lv_lload_n hx hb d_Ref_sum_46 rfl (lv_at hl 1 rfl) ?_
        refine rv_i (As := [.long a0]) (rest := []) hq hA hP hS (c_Ref_isInfinite l A ad D cB cJ o r hne hA cd la lo hi re wi fr bi mi am we f a0) kB_Ref_isInfinite wt_583 ⟨rfl, rfl, Nat.le_of_ble_eq_true rfl, Nat.le_of_ble_eq_true rfl⟩ rfl hl.1 rfl (Nat.le_of_ble_eq_true rfl) d_Ref_sum_47 ⟨Nat.zero_le _, Nat.zero_le _⟩ (fun H locs hP hS => ?_)
        refine lv_if_eq (tgt := 57) hx hb d_Ref_sum_50 (by decide) (fun c9 => absurd c9 c_1) (fun _ => ?_)
        refine lv_lload_n hx hb d_Ref_sum_53 rfl (lv_at hl 1 rfl) ?_
        refine lv_goto (tgt := 58) hx hb d_Ref_sum_54 (by decide) ?_
        exact qr_l hq hr hk hP hS ⟨congrArg (fun z => some (Value.long z)) (by unfold q_Ref_sum; exact (((if_neg c_1).trans ((if_neg c_2).trans ((if_pos c_3).trans rfl)))).symm), _, _, _, _, _, _, _, _, _, _, rfl, hre, hf, hI⟩ d_Ref_sum_58
      · rw [lg_cmp_eq] at c_3
        refine lv_aload_n hx hb d_Ref_sum_38 rfl (lv_at hl 0 rfl) ?_
        refine rv_l (As := []) (rest := []) hq hA hP hS (c_Ref_noNumber l A ad D cB cJ o r hne hA cd la lo hi re wi fr bi mi am we f ) kB_Ref_noNumber wt_639 ⟨rfl, rfl, Nat.le_of_ble_eq_true rfl, Nat.le_of_ble_eq_true rfl⟩ rfl hl.1 rfl (Nat.le_of_ble_eq_true rfl) d_Ref_sum_39 ⟨Nat.zero_le _, Nat.zero_le _⟩ (fun H locs hP hS => ?_)
        refine lv_goto (tgt := 58) hx hb d_Ref_sum_42 (by decide) ?_
        exact qr_l hq hr hk hP hS ⟨congrArg (fun z => some (Value.long z)) (by unfold q_Ref_sum; exact (((if_neg c_1).trans ((if_neg c_2).trans ((if_neg c_3).trans rfl)))).symm), _, _, _, _, _, _, _, _, _, _, rfl, hre, hf, hI⟩ d_Ref_sum_58
  · refine lv_aload_n hx hb d_Ref_sum_8 rfl (lv_at hl 0 rfl) ?_
    refine lv_lload_n hx hb d_Ref_sum_9 rfl (lv_at hl 2 rfl) ?_
    refine rv_i (As := [.long a1]) (rest := []) hq hA hP hS (c_Ref_isInfinite l A ad D cB cJ o r hne hA cd la lo hi re wi fr bi mi am we f a1) kB_Ref_isInfinite wt_583 ⟨rfl, rfl, Nat.le_of_ble_eq_true rfl, Nat.le_of_ble_eq_true rfl⟩ rfl hl.1 rfl (Nat.le_of_ble_eq_true rfl) d_Ref_sum_10 ⟨Nat.zero_le _, Nat.zero_le _⟩ (fun H locs hP hS => ?_)
    refine lv_if_eq (tgt := 59) hx hb d_Ref_sum_13 (by decide) (fun c_4 => ?_) (fun c_4 => ?_)
    · refine lv_aload_n hx hb d_Ref_sum_59 rfl (lv_at hl 0 rfl) ?_
      refine lv_lload_n hx hb d_Ref_sum_60 rfl (lv_at hl 2 rfl) ?_
      refine rv_l (As := [.long a1]) (rest := []) hq hA hP hS (c_Ref_size l A ad D cB cJ o r hne hA cd la lo hi re wi fr bi mi am we f a1) kB_Ref_size wt_570 ⟨rfl, rfl, Nat.le_of_ble_eq_true rfl, Nat.le_of_ble_eq_true rfl⟩ rfl hl.1 rfl (Nat.le_of_ble_eq_true rfl) d_Ref_sum_61 ⟨Nat.zero_le _, Nat.zero_le _⟩ (fun H locs hP hS => ?_)
      refine lv_aload_n hx hb d_Ref_sum_64 rfl (lv_at hl 0 rfl) ?_
      refine lv_lload_n hx hb d_Ref_sum_65 rfl (lv_at hl 1 rfl) ?_
      refine rv_l (As := [.long a0]) (rest := [.long (q_Ref_size wi a1)]) hq hA hP hS (c_Ref_size l A ad D cB cJ o r hne hA cd la lo hi re wi fr bi mi am we f a0) kB_Ref_size wt_570 ⟨rfl, rfl, Nat.le_of_ble_eq_true rfl, Nat.le_of_ble_eq_true rfl⟩ rfl hl.1 rfl (Nat.le_of_ble_eq_true rfl) d_Ref_sum_66 ⟨Nat.zero_le _, Nat.zero_le _⟩ (fun H locs hP hS => ?_)
      refine W.lcmp hx hb d_Ref_sum_69 ?_
      refine jn_ (J := 78) (ls := ls) (v := .int (if (q_Ref_size wi a1) ≤ (q_Ref_size wi a0) then (0 : Int32) else (1 : Int32))) (rest := []) (fun hj => ?_) ?_
      · refine lv_if_le (tgt := 77) hx hb d_Ref_sum_70 (by decide) (fun c_5 => ?_) (fun c_5 => ?_)
        · rw [lg_cmp_le] at c_5
          refine lv_iconst (v := (0 : Int32)) hx hb d_Ref_sum_77 (by decide) ?_
          exact (by rw [if_pos c_5] at hj; exact hj)
        · rw [lg_cmp_le] at c_5
          refine lv_iconst (v := (1 : Int32)) hx hb d_Ref_sum_73 (by decide) ?_
          refine lv_goto (tgt := 78) hx hb d_Ref_sum_74 (by decide) ?_
          exact (by rw [if_neg c_5] at hj; exact hj)
      refine lv_istore (lv' := [(5, .int (if (q_Ref_size wi a1) ≤ (q_Ref_size wi a0) then (0 : Int32) else (1 : Int32))), (0, .ref o), (1, .long a0), (3, .long a1)]) hx hb d_Ref_sum_78 hl (by decide) rfl (fun ls hl => ?_)
      refine lv_iload hx hb d_Ref_sum_80 (lv_at hl 0 rfl) ?_
      refine jn_ (J := 90) (ls := ls) (v := .long (if (if (q_Ref_size wi a1) ≤ (q_Ref_size wi a0) then (0 : Int32) else (1 : Int32)) = 0 then a0 else a1)) (rest := []) (fun hj => ?_) ?_
      · refine lv_if_eq (tgt := 89) hx hb d_Ref_sum_82 (by decide) (fun c_6 => ?_) (fun c_6 => ?_)
        · refine lv_lload_n hx hb d_Ref_sum_89 rfl (lv_at hl 2 rfl) ?_
          exact (by rw [if_pos c_6] at hj; exact hj)
        · refine lv_lload_n hx hb d_Ref_sum_85 rfl (lv_at hl 3 rfl) ?_
          refine lv_goto (tgt := 90) hx hb d_Ref_sum_86 (by decide) ?_
          exact (by rw [if_neg c_6] at hj; exact hj)
      refine lv_lstore (lv' := [(6, .long (if (if (q_Ref_size wi a1) ≤ (q_Ref_size wi a0) then (0 : Int32) else (1 : Int32)) = 0 then a0 else a1)), (5, .int (if (q_Ref_size wi a1) ≤ (q_Ref_size wi a0) then (0 : Int32) else (1 : Int32))), (0, .ref o), (1, .long a0), (3, .long a1)]) hx hb d_Ref_sum_90 hl (by decide) rfl (fun ls hl => ?_)
      refine lv_iload hx hb d_Ref_sum_92 (lv_at hl 1 rfl) ?_
      refine jn_ (J := 102) (ls := ls) (v := .long (if (if (q_Ref_size wi a1) ≤ (q_Ref_size wi a0) then (0 : Int32) else (1 : Int32)) = 0 then a1 else a0)) (rest := []) (fun hj => ?_) ?_
      · refine lv_if_eq (tgt := 101) hx hb d_Ref_sum_94 (by decide) (fun c_7 => ?_) (fun c_7 => ?_)
        · refine lv_lload_n hx hb d_Ref_sum_101 rfl (lv_at hl 4 rfl) ?_
          exact (by rw [if_pos c_7] at hj; exact hj)
        · refine lv_lload_n hx hb d_Ref_sum_97 rfl (lv_at hl 3 rfl) ?_
          refine lv_goto (tgt := 102) hx hb d_Ref_sum_98 (by decide) ?_
          exact (by rw [if_neg c_7] at hj; exact hj)
      refine lv_lstore (lv' := [(8, .long (if (if (q_Ref_size wi a1) ≤ (q_Ref_size wi a0) then (0 : Int32) else (1 : Int32)) = 0 then a1 else a0)), (6, .long (if (if (q_Ref_size wi a1) ≤ (q_Ref_size wi a0) then (0 : Int32) else (1 : Int32)) = 0 then a0 else a1)), (5, .int (if (q_Ref_size wi a1) ≤ (q_Ref_size wi a0) then (0 : Int32) else (1 : Int32))), (0, .ref o), (1, .long a0), (3, .long a1)]) hx hb d_Ref_sum_102 hl (by decide) rfl (fun ls hl => ?_)
      refine lv_aload_n hx hb d_Ref_sum_104 rfl (lv_at hl 3 rfl) ?_
      refine lv_lload_n hx hb d_Ref_sum_105 rfl (lv_at hl 4 rfl) ?_
      refine rv_i (As := [.long a0]) (rest := []) hq hA hP hS (c_Ref_isMinus l A ad D cB cJ o r hne hA cd la lo hi re wi fr bi mi am we f a0) kB_Ref_isMinus wt_591 ⟨rfl, rfl, Nat.le_of_ble_eq_true rfl, Nat.le_of_ble_eq_true rfl⟩ rfl hl.1 rfl (Nat.le_of_ble_eq_true rfl) d_Ref_sum_106 ⟨Nat.zero_le _, Nat.zero_le _⟩ (fun H locs hP hS => ?_)
      refine lv_aload_n hx hb d_Ref_sum_109 rfl (lv_at hl 3 rfl) ?_
      refine lv_lload_n hx hb d_Ref_sum_110 rfl (lv_at hl 5 rfl) ?_
      refine rv_i (As := [.long a1]) (rest := [.int (q_Ref_isMinus wi a0)]) hq hA hP hS (c_Ref_isMinus l A ad D cB cJ o r hne hA cd la lo hi re wi fr bi mi am we f a1) kB_Ref_isMinus wt_591 ⟨rfl, rfl, Nat.le_of_ble_eq_true rfl, Nat.le_of_ble_eq_true rfl⟩ rfl hl.1 rfl (Nat.le_of_ble_eq_true rfl) d_Ref_sum_111 ⟨Nat.zero_le _, Nat.zero_le _⟩ (fun H locs hP hS => ?_)
      refine jn_ (J := 122) (ls := ls) (v := .int (if (q_Ref_isMinus wi a0) = (q_Ref_isMinus wi a1) then (0 : Int32) else (1 : Int32))) (rest := []) (fun hj => ?_) ?_
      · refine lv_icmp_eq (tgt := 121) hx hb d_Ref_sum_114 (by decide) (fun c_8 => ?_) (fun c_8 => ?_)
        · refine lv_iconst (v := (0 : Int32)) hx hb d_Ref_sum_121 (by decide) ?_
          exact (by rw [if_pos c_8] at hj; exact hj)
        · refine lv_iconst (v := (1 : Int32)) hx hb d_Ref_sum_117 (by decide) ?_
          refine lv_goto (tgt := 122) hx hb d_Ref_sum_118 (by decide) ?_
          exact (by rw [if_neg c_8] at hj; exact hj)
      refine lv_istore (lv' := [(10, .int (if (q_Ref_isMinus wi a0) = (q_Ref_isMinus wi a1) then (0 : Int32) else (1 : Int32))), (8, .long (if (if (q_Ref_size wi a1) ≤ (q_Ref_size wi a0) then (0 : Int32) else (1 : Int32)) = 0 then a1 else a0)), (6, .long (if (if (q_Ref_size wi a1) ≤ (q_Ref_size wi a0) then (0 : Int32) else (1 : Int32)) = 0 then a0 else a1)), (5, .int (if (q_Ref_size wi a1) ≤ (q_Ref_size wi a0) then (0 : Int32) else (1 : Int32))), (0, .ref o), (1, .long a0), (3, .long a1)]) hx hb d_Ref_sum_122 hl (by decide) rfl (fun ls hl => ?_)
      refine lv_aload_n hx hb d_Ref_sum_124 rfl (lv_at hl 4 rfl) ?_
      refine lv_lload_n hx hb d_Ref_sum_125 rfl (lv_at hl 5 rfl) ?_
      refine rv_l (As := [.long a0]) (rest := []) hq hA hP hS (c_Ref_size l A ad D cB cJ o r hne hA cd la lo hi re wi fr bi mi am we f a0) kB_Ref_size wt_570 ⟨rfl, rfl, Nat.le_of_ble_eq_true rfl, Nat.le_of_ble_eq_true rfl⟩ rfl hl.1 rfl (Nat.le_of_ble_eq_true rfl) d_Ref_sum_126 ⟨Nat.zero_le _, Nat.zero_le _⟩ (fun H locs hP hS => ?_)
      refine lv_aload_n hx hb d_Ref_sum_129 rfl (lv_at hl 4 rfl) ?_
      refine lv_lload_n hx hb d_Ref_sum_130 rfl (lv_at hl 6 rfl) ?_
      refine rv_l (As := [.long a1]) (rest := [.long (q_Ref_size wi a0)]) hq hA hP hS (c_Ref_size l A ad D cB cJ o r hne hA cd la lo hi re wi fr bi mi am we f a1) kB_Ref_size wt_570 ⟨rfl, rfl, Nat.le_of_ble_eq_true rfl, Nat.le_of_ble_eq_true rfl⟩ rfl hl.1 rfl (Nat.le_of_ble_eq_true rfl) d_Ref_sum_131 ⟨Nat.zero_le _, Nat.zero_le _⟩ (fun H locs hP hS => ?_)
      refine W.lcmp hx hb d_Ref_sum_134 ?_
      refine lv_if_ne (tgt := 143) hx hb d_Ref_sum_135 (by decide) (fun c_9 => ?_) (fun c_9 => ?_)
      · rw [lg_cmp_eq] at c_9
        refine lv_aload_n hx hb d_Ref_sum_143 rfl (lv_at hl 4 rfl) ?_
        refine lv_lload hx hb d_Ref_sum_144 (lv_at hl 2 rfl) ?_
        refine rv_i (As := [.long (if (if (q_Ref_size wi a1) ≤ (q_Ref_size wi a0) then (0 : Int32) else (1 : Int32)) = 0 then a0 else a1)]) (rest := []) hq hA hP hS (c_Ref_isZero l A ad D cB cJ o r hne hA cd la lo hi re wi fr bi mi am we f (if (if (q_Ref_size wi a1) ≤ (q_Ref_size wi a0) then (0 : Int32) else (1 : Int32)) = 0 then a0 else a1)) kB_Ref_isZero wt_635 ⟨rfl, rfl, Nat.le_of_ble_eq_true rfl, Nat.le_of_ble_eq_true rfl⟩ rfl hl.1 rfl (Nat.le_of_ble_eq_true rfl) d_Ref_sum_146 ⟨Nat.zero_le _, Nat.zero_le _⟩ (fun H locs hP hS => ?_)
        refine lv_if_eq (tgt := 179) hx hb d_Ref_sum_149 (by decide) (fun c_10 => ?_) (fun c_10 => ?_)
        · refine lv_aload_n hx hb d_Ref_sum_179 rfl (lv_at hl 4 rfl) ?_
          refine rq_ (As := []) (rest := []) hq hA hP hS (c_Ref_clear l A ad D cB cJ o r hne hA cd la lo hi re wi fr bi mi am we f N hf hI) kB_Ref_clear wt_607 ⟨rfl, rfl, Nat.le_of_ble_eq_true rfl, Nat.le_of_ble_eq_true rfl⟩ rfl hl.1 rfl (Nat.le_of_ble_eq_true rfl) d_Ref_sum_180 ⟨Nat.zero_le _, Nat.zero_le _⟩ (fun v9 fs9 f_11 H locs hk9 hP hS => ?_)
          obtain ⟨rfl, rfl, hf_11⟩ := hk9
          refine lv_aload_n hx hb d_Ref_sum_183 rfl (lv_at hl 4 rfl) ?_
          refine lv_lload hx hb d_Ref_sum_184 (lv_at hl 2 rfl) ?_
          refine rv_v (As := [.long (if (if (q_Ref_size wi a1) ≤ (q_Ref_size wi a0) then (0 : Int32) else (1 : Int32)) = 0 then a0 else a1)]) (rest := []) hq hA hP hS (c_Ref_split l A ad D cB cJ o r hne hA cd la (nI 4400) (0 : Int32) (0 : Int32) wi fr bi mi am we f_11 (if (if (q_Ref_size wi a1) ≤ (q_Ref_size wi a0) then (0 : Int32) else (1 : Int32)) = 0 then a0 else a1)) kB_Ref_split wt_587 ⟨rfl, rfl, Nat.le_of_ble_eq_true rfl, Nat.le_of_ble_eq_true rfl⟩ rfl hl.1 rfl (Nat.le_of_ble_eq_true rfl) d_Ref_sum_186 ⟨Nat.zero_le _, Nat.zero_le _⟩ (fun H locs hP hS => ?_)
          refine lv_aload_n hx hb d_Ref_sum_189 rfl (lv_at hl 4 rfl) ?_
          refine rg_ 9 hq hP (by decide) wt_493 rfl rfl d_Ref_sum_190 ?_
          refine lv_istore (lv' := [(11, .int (q_Ref_split_mi wi fr bi (if (if (q_Ref_size wi a1) ≤ (q_Ref_size wi a0) then (0 : Int32) else (1 : Int32)) = 0 then a0 else a1))), (10, .int (if (q_Ref_isMinus wi a0) = (q_Ref_isMinus wi a1) then (0 : Int32) else (1 : Int32))), (8, .long (if (if (q_Ref_size wi a1) ≤ (q_Ref_size wi a0) then (0 : Int32) else (1 : Int32)) = 0 then a1 else a0)), (6, .long (if (if (q_Ref_size wi a1) ≤ (q_Ref_size wi a0) then (0 : Int32) else (1 : Int32)) = 0 then a0 else a1)), (5, .int (if (q_Ref_size wi a1) ≤ (q_Ref_size wi a0) then (0 : Int32) else (1 : Int32))), (0, .ref o), (1, .long a0), (3, .long a1)]) hx hb d_Ref_sum_193 hl (by decide) rfl (fun ls hl => ?_)
          refine lv_aload_n hx hb d_Ref_sum_195 rfl (lv_at hl 5 rfl) ?_
          refine lv_aload_n hx hb d_Ref_sum_196 rfl (lv_at hl 5 rfl) ?_
          refine rg_ 10 hq hP (by decide) wt_494 rfl rfl d_Ref_sum_197 ?_
          refine lv_aload_n hx hb d_Ref_sum_200 rfl (lv_at hl 5 rfl) ?_
          refine rg_ 11 hq hP (by decide) wt_495 rfl rfl d_Ref_sum_201 ?_
          refine rq_ (As := [.long (q_Ref_split_am wi fr bi (if (if (q_Ref_size wi a1) ≤ (q_Ref_size wi a0) then (0 : Int32) else (1 : Int32)) = 0 then a0 else a1)), .int (q_Ref_split_we wi fr bi (if (if (q_Ref_size wi a1) ≤ (q_Ref_size wi a0) then (0 : Int32) else (1 : Int32)) = 0 then a0 else a1))]) (rest := []) hq hA hP hS (c_Ref_addX l A ad D cB cJ o r hne hA cd la (nI 4400) (0 : Int32) (0 : Int32) wi fr bi (q_Ref_split_mi wi fr bi (if (if (q_Ref_size wi a1) ≤ (q_Ref_size wi a0) then (0 : Int32) else (1 : Int32)) = 0 then a0 else a1)) (q_Ref_split_am wi fr bi (if (if (q_Ref_size wi a1) ≤ (q_Ref_size wi a0) then (0 : Int32) else (1 : Int32)) = 0 then a0 else a1)) (q_Ref_split_we wi fr bi (if (if (q_Ref_size wi a1) ≤ (q_Ref_size wi a0) then (0 : Int32) else (1 : Int32)) = 0 then a0 else a1)) f_11 0 hf_11 ri_0 (q_Ref_split_am wi fr bi (if (if (q_Ref_size wi a1) ≤ (q_Ref_size wi a0) then (0 : Int32) else (1 : Int32)) = 0 then a0 else a1)) (q_Ref_split_we wi fr bi (if (if (q_Ref_size wi a1) ≤ (q_Ref_size wi a0) then (0 : Int32) else (1 : Int32)) = 0 then a0 else a1)) (wt_ (q_Ref_split_we wi fr bi (if (if (q_Ref_size wi a1) ≤ (q_Ref_size wi a0) then (0 : Int32) else (1 : Int32)) = 0 then a0 else a1))) (sp_P hfm _).1 (by have := (sp_P hfm (if (if (q_Ref_size wi a1) ≤ (q_Ref_size wi a0) then (0 : Int32) else (1 : Int32)) = 0 then a0 else a1)).2; omega) (fits_row (by have := (sp_P hfm (if (if (q_Ref_size wi a1) ≤ (q_Ref_size wi a0) then (0 : Int32) else (1 : Int32)) = 0 then a0 else a1)).2; omega))) kB_Ref_add wt_611 ⟨rfl, rfl, Nat.le_of_ble_eq_true rfl, Nat.le_of_ble_eq_true rfl⟩ rfl hl.1 rfl (Nat.le_of_ble_eq_true rfl) d_Ref_sum_204 ⟨Nat.zero_le _, Nat.zero_le _⟩ (fun v9 fs9 f_12 H locs hk9 hP hS => ?_)
          obtain ⟨rfl, lo_12, hi_12, rfl, hf_12, hI_12⟩ := hk9
          refine lv_aload_n hx hb d_Ref_sum_207 rfl (lv_at hl 5 rfl) ?_
          refine lv_lload hx hb d_Ref_sum_208 (lv_at hl 2 rfl) ?_
          refine rv_v (As := [.long (if (if (q_Ref_size wi a1) ≤ (q_Ref_size wi a0) then (0 : Int32) else (1 : Int32)) = 0 then a1 else a0)]) (rest := []) hq hA hP hS (c_Ref_split l A ad D cB cJ o r hne hA cd la lo_12 hi_12 (0 : Int32) wi fr bi (q_Ref_split_mi wi fr bi (if (if (q_Ref_size wi a1) ≤ (q_Ref_size wi a0) then (0 : Int32) else (1 : Int32)) = 0 then a0 else a1)) (q_Ref_split_am wi fr bi (if (if (q_Ref_size wi a1) ≤ (q_Ref_size wi a0) then (0 : Int32) else (1 : Int32)) = 0 then a0 else a1)) (q_Ref_split_we wi fr bi (if (if (q_Ref_size wi a1) ≤ (q_Ref_size wi a0) then (0 : Int32) else (1 : Int32)) = 0 then a0 else a1)) f_12 (if (if (q_Ref_size wi a1) ≤ (q_Ref_size wi a0) then (0 : Int32) else (1 : Int32)) = 0 then a1 else a0)) kB_Ref_split wt_587 ⟨rfl, rfl, Nat.le_of_ble_eq_true rfl, Nat.le_of_ble_eq_true rfl⟩ rfl hl.1 rfl (Nat.le_of_ble_eq_true rfl) d_Ref_sum_210 ⟨Nat.zero_le _, Nat.zero_le _⟩ (fun H locs hP hS => ?_)
          refine lv_iload hx hb d_Ref_sum_213 (lv_at hl 1 rfl) ?_
          refine lv_if_eq (tgt := 233) hx hb d_Ref_sum_215 (by decide) (fun c_13 => ?_) (fun c_13 => ?_)
          · refine lv_aload_n hx hb d_Ref_sum_233 rfl (lv_at hl 5 rfl) ?_
            refine lv_aload_n hx hb d_Ref_sum_234 rfl (lv_at hl 5 rfl) ?_
            refine rg_ 10 hq hP (by decide) wt_494 rfl rfl d_Ref_sum_235 ?_
            refine lv_aload_n hx hb d_Ref_sum_238 rfl (lv_at hl 5 rfl) ?_
            refine rg_ 11 hq hP (by decide) wt_495 rfl rfl d_Ref_sum_239 ?_
            refine rq_ (As := [.long (q_Ref_split_am wi fr bi (if (if (q_Ref_size wi a1) ≤ (q_Ref_size wi a0) then (0 : Int32) else (1 : Int32)) = 0 then a1 else a0)), .int (q_Ref_split_we wi fr bi (if (if (q_Ref_size wi a1) ≤ (q_Ref_size wi a0) then (0 : Int32) else (1 : Int32)) = 0 then a1 else a0))]) (rest := []) hq hA hP hS (c_Ref_addX l A ad D cB cJ o r hne hA cd la lo_12 hi_12 (0 : Int32) wi fr bi (q_Ref_split_mi wi fr bi (if (if (q_Ref_size wi a1) ≤ (q_Ref_size wi a0) then (0 : Int32) else (1 : Int32)) = 0 then a1 else a0)) (q_Ref_split_am wi fr bi (if (if (q_Ref_size wi a1) ≤ (q_Ref_size wi a0) then (0 : Int32) else (1 : Int32)) = 0 then a1 else a0)) (q_Ref_split_we wi fr bi (if (if (q_Ref_size wi a1) ≤ (q_Ref_size wi a0) then (0 : Int32) else (1 : Int32)) = 0 then a1 else a0)) f_12 (0 + un_ (q_Ref_split_am wi fr bi (if (if (q_Ref_size wi a1) ≤ (q_Ref_size wi a0) then (0 : Int32) else (1 : Int32)) = 0 then a0 else a1)) * 2 ^ (wt_ (q_Ref_split_we wi fr bi (if (if (q_Ref_size wi a1) ≤ (q_Ref_size wi a0) then (0 : Int32) else (1 : Int32)) = 0 then a0 else a1)))) hf_12 hI_12 (q_Ref_split_am wi fr bi (if (if (q_Ref_size wi a1) ≤ (q_Ref_size wi a0) then (0 : Int32) else (1 : Int32)) = 0 then a1 else a0)) (q_Ref_split_we wi fr bi (if (if (q_Ref_size wi a1) ≤ (q_Ref_size wi a0) then (0 : Int32) else (1 : Int32)) = 0 then a1 else a0)) (wt_ (q_Ref_split_we wi fr bi (if (if (q_Ref_size wi a1) ≤ (q_Ref_size wi a0) then (0 : Int32) else (1 : Int32)) = 0 then a1 else a0))) (sp_P hfm _).1 (by have := (sp_P hfm (if (if (q_Ref_size wi a1) ≤ (q_Ref_size wi a0) then (0 : Int32) else (1 : Int32)) = 0 then a1 else a0)).2; omega) (fits_two (by have := (sp_P hfm (if (if (q_Ref_size wi a1) ≤ (q_Ref_size wi a0) then (0 : Int32) else (1 : Int32)) = 0 then a0 else a1)).2; omega) (by have := (sp_P hfm (if (if (q_Ref_size wi a1) ≤ (q_Ref_size wi a0) then (0 : Int32) else (1 : Int32)) = 0 then a1 else a0)).2; omega))) kB_Ref_add wt_611 ⟨rfl, rfl, Nat.le_of_ble_eq_true rfl, Nat.le_of_ble_eq_true rfl⟩ rfl hl.1 rfl (Nat.le_of_ble_eq_true rfl) d_Ref_sum_242 ⟨Nat.zero_le _, Nat.zero_le _⟩ (fun v9 fs9 f_14 H locs hk9 hP hS => ?_)
            obtain ⟨rfl, lo_14, hi_14, rfl, hf_14, hI_14⟩ := hk9
            refine lv_aload_n hx hb d_Ref_sum_245 rfl (lv_at hl 5 rfl) ?_
            refine lv_iload hx hb d_Ref_sum_246 (lv_at hl 0 rfl) ?_
            refine rv_l (As := [.int (q_Ref_split_mi wi fr bi (if (if (q_Ref_size wi a1) ≤ (q_Ref_size wi a0) then (0 : Int32) else (1 : Int32)) = 0 then a0 else a1))]) (rest := []) hq hA hP hS (c_Ref_rounded l A ad D cB cJ o r hne hA cd la lo_14 hi_14 (0 : Int32) wi fr bi (q_Ref_split_mi wi fr bi (if (if (q_Ref_size wi a1) ≤ (q_Ref_size wi a0) then (0 : Int32) else (1 : Int32)) = 0 then a1 else a0)) (q_Ref_split_am wi fr bi (if (if (q_Ref_size wi a1) ≤ (q_Ref_size wi a0) then (0 : Int32) else (1 : Int32)) = 0 then a1 else a0)) (q_Ref_split_we wi fr bi (if (if (q_Ref_size wi a1) ≤ (q_Ref_size wi a0) then (0 : Int32) else (1 : Int32)) = 0 then a1 else a0)) f_14 (q_Ref_split_mi wi fr bi (if (if (q_Ref_size wi a1) ≤ (q_Ref_size wi a0) then (0 : Int32) else (1 : Int32)) = 0 then a0 else a1)) ((0 + un_ (q_Ref_split_am wi fr bi (if (if (q_Ref_size wi a1) ≤ (q_Ref_size wi a0) then (0 : Int32) else (1 : Int32)) = 0 then a0 else a1)) * 2 ^ (wt_ (q_Ref_split_we wi fr bi (if (if (q_Ref_size wi a1) ≤ (q_Ref_size wi a0) then (0 : Int32) else (1 : Int32)) = 0 then a0 else a1)))) + un_ (q_Ref_split_am wi fr bi (if (if (q_Ref_size wi a1) ≤ (q_Ref_size wi a0) then (0 : Int32) else (1 : Int32)) = 0 then a1 else a0)) * 2 ^ (wt_ (q_Ref_split_we wi fr bi (if (if (q_Ref_size wi a1) ≤ (q_Ref_size wi a0) then (0 : Int32) else (1 : Int32)) = 0 then a1 else a0)))) F B hf_14 hI_14 (Nat.add_pos_left (rf_pos hfm c_10) _) (Or.inl rfl) (fmR_f hfm) (fmR_b hfm) (fmR_FB hfm)) kB_Ref_rounded wt_619 ⟨rfl, rfl, Nat.le_of_ble_eq_true rfl, Nat.le_of_ble_eq_true rfl⟩ rfl hl.1 rfl (Nat.le_of_ble_eq_true rfl) d_Ref_sum_248 ⟨Nat.zero_le _, Nat.zero_le _⟩ (fun H locs hP hS => ?_)
            exact qr_l hq hr hk hP hS ⟨congrArg (fun z => some (Value.long z)) (by unfold q_Ref_sum; exact (((if_pos c_1).trans ((if_pos c_4).trans ((if_neg c_9).trans ((if_pos c_10).trans ((if_pos c_13).trans rfl)))))).symm), _, _, _, _, _, _, _, _, _, _, rfl, (Or.inl rfl), hf_14, hI_14⟩ d_Ref_sum_251
          · refine lv_aload_n hx hb d_Ref_sum_218 rfl (lv_at hl 5 rfl) ?_
            refine lv_aload_n hx hb d_Ref_sum_219 rfl (lv_at hl 5 rfl) ?_
            refine rg_ 10 hq hP (by decide) wt_494 rfl rfl d_Ref_sum_220 ?_
            refine lv_aload_n hx hb d_Ref_sum_223 rfl (lv_at hl 5 rfl) ?_
            refine rg_ 11 hq hP (by decide) wt_495 rfl rfl d_Ref_sum_224 ?_
            refine rq_ (As := [.long (q_Ref_split_am wi fr bi (if (if (q_Ref_size wi a1) ≤ (q_Ref_size wi a0) then (0 : Int32) else (1 : Int32)) = 0 then a1 else a0)), .int (q_Ref_split_we wi fr bi (if (if (q_Ref_size wi a1) ≤ (q_Ref_size wi a0) then (0 : Int32) else (1 : Int32)) = 0 then a1 else a0))]) (rest := []) hq hA hP hS (c_Ref_takeX l A ad D cB cJ o r hne hA cd la lo_12 hi_12 (0 : Int32) wi fr bi (q_Ref_split_mi wi fr bi (if (if (q_Ref_size wi a1) ≤ (q_Ref_size wi a0) then (0 : Int32) else (1 : Int32)) = 0 then a1 else a0)) (q_Ref_split_am wi fr bi (if (if (q_Ref_size wi a1) ≤ (q_Ref_size wi a0) then (0 : Int32) else (1 : Int32)) = 0 then a1 else a0)) (q_Ref_split_we wi fr bi (if (if (q_Ref_size wi a1) ≤ (q_Ref_size wi a0) then (0 : Int32) else (1 : Int32)) = 0 then a1 else a0)) f_12 (0 + un_ (q_Ref_split_am wi fr bi (if (if (q_Ref_size wi a1) ≤ (q_Ref_size wi a0) then (0 : Int32) else (1 : Int32)) = 0 then a0 else a1)) * 2 ^ (wt_ (q_Ref_split_we wi fr bi (if (if (q_Ref_size wi a1) ≤ (q_Ref_size wi a0) then (0 : Int32) else (1 : Int32)) = 0 then a0 else a1)))) hf_12 hI_12 (q_Ref_split_am wi fr bi (if (if (q_Ref_size wi a1) ≤ (q_Ref_size wi a0) then (0 : Int32) else (1 : Int32)) = 0 then a1 else a0)) (q_Ref_split_we wi fr bi (if (if (q_Ref_size wi a1) ≤ (q_Ref_size wi a0) then (0 : Int32) else (1 : Int32)) = 0 then a1 else a0)) (wt_ (q_Ref_split_we wi fr bi (if (if (q_Ref_size wi a1) ≤ (q_Ref_size wi a0) then (0 : Int32) else (1 : Int32)) = 0 then a1 else a0))) (sp_P hfm _).1 (by have := (sp_P hfm (if (if (q_Ref_size wi a1) ≤ (q_Ref_size wi a0) then (0 : Int32) else (1 : Int32)) = 0 then a1 else a0)).2; omega) (fits_row (by have := (sp_P hfm (if (if (q_Ref_size wi a1) ≤ (q_Ref_size wi a0) then (0 : Int32) else (1 : Int32)) = 0 then a0 else a1)).2; omega)) (su_le hfm)) kB_Ref_take wt_663 ⟨rfl, rfl, Nat.le_of_ble_eq_true rfl, Nat.le_of_ble_eq_true rfl⟩ rfl hl.1 rfl (Nat.le_of_ble_eq_true rfl) d_Ref_sum_227 ⟨Nat.zero_le _, Nat.zero_le _⟩ (fun v9 fs9 f_16 H locs hk9 hP hS => ?_)
            obtain ⟨rfl, lo_16, hi_16, rfl, hf_16, hI_16⟩ := hk9
            refine lv_goto (tgt := 245) hx hb d_Ref_sum_230 (by decide) ?_
            refine lv_aload_n hx hb d_Ref_sum_245 rfl (lv_at hl 5 rfl) ?_
            refine lv_iload hx hb d_Ref_sum_246 (lv_at hl 0 rfl) ?_
            refine rv_l (As := [.int (q_Ref_split_mi wi fr bi (if (if (q_Ref_size wi a1) ≤ (q_Ref_size wi a0) then (0 : Int32) else (1 : Int32)) = 0 then a0 else a1))]) (rest := []) hq hA hP hS (c_Ref_rounded l A ad D cB cJ o r hne hA cd la lo_16 hi_16 (0 : Int32) wi fr bi (q_Ref_split_mi wi fr bi (if (if (q_Ref_size wi a1) ≤ (q_Ref_size wi a0) then (0 : Int32) else (1 : Int32)) = 0 then a1 else a0)) (q_Ref_split_am wi fr bi (if (if (q_Ref_size wi a1) ≤ (q_Ref_size wi a0) then (0 : Int32) else (1 : Int32)) = 0 then a1 else a0)) (q_Ref_split_we wi fr bi (if (if (q_Ref_size wi a1) ≤ (q_Ref_size wi a0) then (0 : Int32) else (1 : Int32)) = 0 then a1 else a0)) f_16 (q_Ref_split_mi wi fr bi (if (if (q_Ref_size wi a1) ≤ (q_Ref_size wi a0) then (0 : Int32) else (1 : Int32)) = 0 then a0 else a1)) ((0 + un_ (q_Ref_split_am wi fr bi (if (if (q_Ref_size wi a1) ≤ (q_Ref_size wi a0) then (0 : Int32) else (1 : Int32)) = 0 then a0 else a1)) * 2 ^ (wt_ (q_Ref_split_we wi fr bi (if (if (q_Ref_size wi a1) ≤ (q_Ref_size wi a0) then (0 : Int32) else (1 : Int32)) = 0 then a0 else a1)))) - un_ (q_Ref_split_am wi fr bi (if (if (q_Ref_size wi a1) ≤ (q_Ref_size wi a0) then (0 : Int32) else (1 : Int32)) = 0 then a1 else a0)) * 2 ^ (wt_ (q_Ref_split_we wi fr bi (if (if (q_Ref_size wi a1) ≤ (q_Ref_size wi a0) then (0 : Int32) else (1 : Int32)) = 0 then a1 else a0)))) F B hf_16 hI_16 (su_lt hfm c_9) (Or.inl rfl) (fmR_f hfm) (fmR_b hfm) (fmR_FB hfm)) kB_Ref_rounded wt_619 ⟨rfl, rfl, Nat.le_of_ble_eq_true rfl, Nat.le_of_ble_eq_true rfl⟩ rfl hl.1 rfl (Nat.le_of_ble_eq_true rfl) d_Ref_sum_248 ⟨Nat.zero_le _, Nat.zero_le _⟩ (fun H locs hP hS => ?_)
            exact qr_l hq hr hk hP hS ⟨congrArg (fun z => some (Value.long z)) (by unfold q_Ref_sum; exact (((if_pos c_1).trans ((if_pos c_4).trans ((if_neg c_9).trans ((if_pos c_10).trans ((if_neg c_13).trans rfl)))))).symm), _, _, _, _, _, _, _, _, _, _, rfl, (Or.inl rfl), hf_16, hI_16⟩ d_Ref_sum_251
        · refine lv_aload_n hx hb d_Ref_sum_152 rfl (lv_at hl 4 rfl) ?_
          refine lv_lconst (v := (0 : Int64)) hx hb d_Ref_sum_153 (by decide) ?_
          refine lv_aload_n hx hb d_Ref_sum_154 rfl (lv_at hl 4 rfl) ?_
          refine lv_lload_n hx hb d_Ref_sum_155 rfl (lv_at hl 5 rfl) ?_
          refine rv_i (As := [.long a0]) (rest := [.long (0 : Int64), .ref o]) hq hA hP hS (c_Ref_isMinus l A ad D cB cJ o r hne hA cd la lo hi re wi fr bi mi am we f a0) kB_Ref_isMinus wt_591 ⟨rfl, rfl, Nat.le_of_ble_eq_true rfl, Nat.le_of_ble_eq_true rfl⟩ rfl hl.1 rfl (Nat.le_of_ble_eq_true rfl) d_Ref_sum_156 ⟨Nat.zero_le _, Nat.zero_le _⟩ (fun H locs hP hS => ?_)
          refine lv_if_eq (tgt := 174) hx hb d_Ref_sum_159 (by decide) (fun c_18 => ?_) (fun c_18 => ?_)
          · refine lv_iconst (v := (0 : Int32)) hx hb d_Ref_sum_174 (by decide) ?_
            refine rv_l (As := [.long (0 : Int64), .int (0 : Int32)]) (rest := []) hq hA hP hS (c_Ref_signed l A ad D cB cJ o r hne hA cd la lo hi re wi fr bi mi am we f (0 : Int64) (0 : Int32)) kB_Ref_signed wt_579 ⟨rfl, rfl, Nat.le_of_ble_eq_true rfl, Nat.le_of_ble_eq_true rfl⟩ rfl hl.1 rfl (Nat.le_of_ble_eq_true rfl) d_Ref_sum_175 ⟨Nat.zero_le _, Nat.zero_le _⟩ (fun H locs hP hS => ?_)
            exact qr_l hq hr hk hP hS ⟨congrArg (fun z => some (Value.long z)) (by unfold q_Ref_sum; exact (((if_pos c_1).trans ((if_pos c_4).trans ((if_neg c_9).trans ((if_neg c_10).trans ((if_pos c_18).trans rfl)))))).symm), _, _, _, _, _, _, _, _, _, _, rfl, hre, hf, hI⟩ d_Ref_sum_178
          · refine lv_aload_n hx hb d_Ref_sum_162 rfl (lv_at hl 4 rfl) ?_
            refine lv_lload_n hx hb d_Ref_sum_163 rfl (lv_at hl 6 rfl) ?_
            refine rv_i (As := [.long a1]) (rest := [.long (0 : Int64), .ref o]) hq hA hP hS (c_Ref_isMinus l A ad D cB cJ o r hne hA cd la lo hi re wi fr bi mi am we f a1) kB_Ref_isMinus wt_591 ⟨rfl, rfl, Nat.le_of_ble_eq_true rfl, Nat.le_of_ble_eq_true rfl⟩ rfl hl.1 rfl (Nat.le_of_ble_eq_true rfl) d_Ref_sum_164 ⟨Nat.zero_le _, Nat.zero_le _⟩ (fun H locs hP hS => ?_)
            refine jn_ (J := 175) (ls := ls) (v := .int (if (q_Ref_isMinus wi a1) = 0 then (0 : Int32) else (1 : Int32))) (rest := [.long (0 : Int64), .ref o]) (fun hj => ?_) ?_
            · refine lv_if_eq (tgt := 174) hx hb d_Ref_sum_167 (by decide) (fun c_19 => ?_) (fun c_19 => ?_)
              · refine lv_iconst (v := (0 : Int32)) hx hb d_Ref_sum_174 (by decide) ?_
                exact (by rw [if_pos c_19] at hj; exact hj)
              · refine lv_iconst (v := (1 : Int32)) hx hb d_Ref_sum_170 (by decide) ?_
                refine lv_goto (tgt := 175) hx hb d_Ref_sum_171 (by decide) ?_
                exact (by rw [if_neg c_19] at hj; exact hj)
            refine rv_l (As := [.long (0 : Int64), .int (if (q_Ref_isMinus wi a1) = 0 then (0 : Int32) else (1 : Int32))]) (rest := []) hq hA hP hS (c_Ref_signed l A ad D cB cJ o r hne hA cd la lo hi re wi fr bi mi am we f (0 : Int64) (if (q_Ref_isMinus wi a1) = 0 then (0 : Int32) else (1 : Int32))) kB_Ref_signed wt_579 ⟨rfl, rfl, Nat.le_of_ble_eq_true rfl, Nat.le_of_ble_eq_true rfl⟩ rfl hl.1 rfl (Nat.le_of_ble_eq_true rfl) d_Ref_sum_175 ⟨Nat.zero_le _, Nat.zero_le _⟩ (fun H locs hP hS => ?_)
            exact qr_l hq hr hk hP hS ⟨congrArg (fun z => some (Value.long z)) (by unfold q_Ref_sum; exact (((if_pos c_1).trans ((if_pos c_4).trans ((if_neg c_9).trans ((if_neg c_10).trans ((if_neg c_18).trans rfl)))))).symm), _, _, _, _, _, _, _, _, _, _, rfl, hre, hf, hI⟩ d_Ref_sum_178
      · rw [lg_cmp_eq] at c_9
        refine lv_iload hx hb d_Ref_sum_138 (lv_at hl 0 rfl) ?_
        refine lv_if_ne (tgt := 152) hx hb d_Ref_sum_140 (by decide) (fun c_20 => ?_) (fun c_20 => ?_)
        · refine lv_aload_n hx hb d_Ref_sum_152 rfl (lv_at hl 4 rfl) ?_
          refine lv_lconst (v := (0 : Int64)) hx hb d_Ref_sum_153 (by decide) ?_
          refine lv_aload_n hx hb d_Ref_sum_154 rfl (lv_at hl 4 rfl) ?_
          refine lv_lload_n hx hb d_Ref_sum_155 rfl (lv_at hl 5 rfl) ?_
          refine rv_i (As := [.long a0]) (rest := [.long (0 : Int64), .ref o]) hq hA hP hS (c_Ref_isMinus l A ad D cB cJ o r hne hA cd la lo hi re wi fr bi mi am we f a0) kB_Ref_isMinus wt_591 ⟨rfl, rfl, Nat.le_of_ble_eq_true rfl, Nat.le_of_ble_eq_true rfl⟩ rfl hl.1 rfl (Nat.le_of_ble_eq_true rfl) d_Ref_sum_156 ⟨Nat.zero_le _, Nat.zero_le _⟩ (fun H locs hP hS => ?_)
          refine lv_if_eq (tgt := 174) hx hb d_Ref_sum_159 (by decide) (fun c_21 => ?_) (fun c_21 => ?_)
          · refine lv_iconst (v := (0 : Int32)) hx hb d_Ref_sum_174 (by decide) ?_
            refine rv_l (As := [.long (0 : Int64), .int (0 : Int32)]) (rest := []) hq hA hP hS (c_Ref_signed l A ad D cB cJ o r hne hA cd la lo hi re wi fr bi mi am we f (0 : Int64) (0 : Int32)) kB_Ref_signed wt_579 ⟨rfl, rfl, Nat.le_of_ble_eq_true rfl, Nat.le_of_ble_eq_true rfl⟩ rfl hl.1 rfl (Nat.le_of_ble_eq_true rfl) d_Ref_sum_175 ⟨Nat.zero_le _, Nat.zero_le _⟩ (fun H locs hP hS => ?_)
            exact qr_l hq hr hk hP hS ⟨congrArg (fun z => some (Value.long z)) (by unfold q_Ref_sum; exact (((if_pos c_1).trans ((if_pos c_4).trans ((if_pos c_9).trans ((if_neg c_20).trans ((if_pos c_21).trans rfl)))))).symm), _, _, _, _, _, _, _, _, _, _, rfl, hre, hf, hI⟩ d_Ref_sum_178
          · refine lv_aload_n hx hb d_Ref_sum_162 rfl (lv_at hl 4 rfl) ?_
            refine lv_lload_n hx hb d_Ref_sum_163 rfl (lv_at hl 6 rfl) ?_
            refine rv_i (As := [.long a1]) (rest := [.long (0 : Int64), .ref o]) hq hA hP hS (c_Ref_isMinus l A ad D cB cJ o r hne hA cd la lo hi re wi fr bi mi am we f a1) kB_Ref_isMinus wt_591 ⟨rfl, rfl, Nat.le_of_ble_eq_true rfl, Nat.le_of_ble_eq_true rfl⟩ rfl hl.1 rfl (Nat.le_of_ble_eq_true rfl) d_Ref_sum_164 ⟨Nat.zero_le _, Nat.zero_le _⟩ (fun H locs hP hS => ?_)
            refine jn_ (J := 175) (ls := ls) (v := .int (if (q_Ref_isMinus wi a1) = 0 then (0 : Int32) else (1 : Int32))) (rest := [.long (0 : Int64), .ref o]) (fun hj => ?_) ?_
            · refine lv_if_eq (tgt := 174) hx hb d_Ref_sum_167 (by decide) (fun c_22 => ?_) (fun c_22 => ?_)
              · refine lv_iconst (v := (0 : Int32)) hx hb d_Ref_sum_174 (by decide) ?_
                exact (by rw [if_pos c_22] at hj; exact hj)
              · refine lv_iconst (v := (1 : Int32)) hx hb d_Ref_sum_170 (by decide) ?_
                refine lv_goto (tgt := 175) hx hb d_Ref_sum_171 (by decide) ?_
                exact (by rw [if_neg c_22] at hj; exact hj)
            refine rv_l (As := [.long (0 : Int64), .int (if (q_Ref_isMinus wi a1) = 0 then (0 : Int32) else (1 : Int32))]) (rest := []) hq hA hP hS (c_Ref_signed l A ad D cB cJ o r hne hA cd la lo hi re wi fr bi mi am we f (0 : Int64) (if (q_Ref_isMinus wi a1) = 0 then (0 : Int32) else (1 : Int32))) kB_Ref_signed wt_579 ⟨rfl, rfl, Nat.le_of_ble_eq_true rfl, Nat.le_of_ble_eq_true rfl⟩ rfl hl.1 rfl (Nat.le_of_ble_eq_true rfl) d_Ref_sum_175 ⟨Nat.zero_le _, Nat.zero_le _⟩ (fun H locs hP hS => ?_)
            exact qr_l hq hr hk hP hS ⟨congrArg (fun z => some (Value.long z)) (by unfold q_Ref_sum; exact (((if_pos c_1).trans ((if_pos c_4).trans ((if_pos c_9).trans ((if_neg c_20).trans ((if_neg c_21).trans rfl)))))).symm), _, _, _, _, _, _, _, _, _, _, rfl, hre, hf, hI⟩ d_Ref_sum_178
        · refine lv_aload_n hx hb d_Ref_sum_143 rfl (lv_at hl 4 rfl) ?_
          refine lv_lload hx hb d_Ref_sum_144 (lv_at hl 2 rfl) ?_
          refine rv_i (As := [.long (if (if (q_Ref_size wi a1) ≤ (q_Ref_size wi a0) then (0 : Int32) else (1 : Int32)) = 0 then a0 else a1)]) (rest := []) hq hA hP hS (c_Ref_isZero l A ad D cB cJ o r hne hA cd la lo hi re wi fr bi mi am we f (if (if (q_Ref_size wi a1) ≤ (q_Ref_size wi a0) then (0 : Int32) else (1 : Int32)) = 0 then a0 else a1)) kB_Ref_isZero wt_635 ⟨rfl, rfl, Nat.le_of_ble_eq_true rfl, Nat.le_of_ble_eq_true rfl⟩ rfl hl.1 rfl (Nat.le_of_ble_eq_true rfl) d_Ref_sum_146 ⟨Nat.zero_le _, Nat.zero_le _⟩ (fun H locs hP hS => ?_)
          refine lv_if_eq (tgt := 179) hx hb d_Ref_sum_149 (by decide) (fun c_23 => ?_) (fun c_23 => ?_)
          · refine lv_aload_n hx hb d_Ref_sum_179 rfl (lv_at hl 4 rfl) ?_
            refine rq_ (As := []) (rest := []) hq hA hP hS (c_Ref_clear l A ad D cB cJ o r hne hA cd la lo hi re wi fr bi mi am we f N hf hI) kB_Ref_clear wt_607 ⟨rfl, rfl, Nat.le_of_ble_eq_true rfl, Nat.le_of_ble_eq_true rfl⟩ rfl hl.1 rfl (Nat.le_of_ble_eq_true rfl) d_Ref_sum_180 ⟨Nat.zero_le _, Nat.zero_le _⟩ (fun v9 fs9 f_24 H locs hk9 hP hS => ?_)
            obtain ⟨rfl, rfl, hf_24⟩ := hk9
            refine lv_aload_n hx hb d_Ref_sum_183 rfl (lv_at hl 4 rfl) ?_
            refine lv_lload hx hb d_Ref_sum_184 (lv_at hl 2 rfl) ?_
            refine rv_v (As := [.long (if (if (q_Ref_size wi a1) ≤ (q_Ref_size wi a0) then (0 : Int32) else (1 : Int32)) = 0 then a0 else a1)]) (rest := []) hq hA hP hS (c_Ref_split l A ad D cB cJ o r hne hA cd la (nI 4400) (0 : Int32) (0 : Int32) wi fr bi mi am we f_24 (if (if (q_Ref_size wi a1) ≤ (q_Ref_size wi a0) then (0 : Int32) else (1 : Int32)) = 0 then a0 else a1)) kB_Ref_split wt_587 ⟨rfl, rfl, Nat.le_of_ble_eq_true rfl, Nat.le_of_ble_eq_true rfl⟩ rfl hl.1 rfl (Nat.le_of_ble_eq_true rfl) d_Ref_sum_186 ⟨Nat.zero_le _, Nat.zero_le _⟩ (fun H locs hP hS => ?_)
            refine lv_aload_n hx hb d_Ref_sum_189 rfl (lv_at hl 4 rfl) ?_
            refine rg_ 9 hq hP (by decide) wt_493 rfl rfl d_Ref_sum_190 ?_
            refine lv_istore (lv' := [(11, .int (q_Ref_split_mi wi fr bi (if (if (q_Ref_size wi a1) ≤ (q_Ref_size wi a0) then (0 : Int32) else (1 : Int32)) = 0 then a0 else a1))), (10, .int (if (q_Ref_isMinus wi a0) = (q_Ref_isMinus wi a1) then (0 : Int32) else (1 : Int32))), (8, .long (if (if (q_Ref_size wi a1) ≤ (q_Ref_size wi a0) then (0 : Int32) else (1 : Int32)) = 0 then a1 else a0)), (6, .long (if (if (q_Ref_size wi a1) ≤ (q_Ref_size wi a0) then (0 : Int32) else (1 : Int32)) = 0 then a0 else a1)), (5, .int (if (q_Ref_size wi a1) ≤ (q_Ref_size wi a0) then (0 : Int32) else (1 : Int32))), (0, .ref o), (1, .long a0), (3, .long a1)]) hx hb d_Ref_sum_193 hl (by decide) rfl (fun ls hl => ?_)
            refine lv_aload_n hx hb d_Ref_sum_195 rfl (lv_at hl 5 rfl) ?_
            refine lv_aload_n hx hb d_Ref_sum_196 rfl (lv_at hl 5 rfl) ?_
            refine rg_ 10 hq hP (by decide) wt_494 rfl rfl d_Ref_sum_197 ?_
            refine lv_aload_n hx hb d_Ref_sum_200 rfl (lv_at hl 5 rfl) ?_
            refine rg_ 11 hq hP (by decide) wt_495 rfl rfl d_Ref_sum_201 ?_
            refine rq_ (As := [.long (q_Ref_split_am wi fr bi (if (if (q_Ref_size wi a1) ≤ (q_Ref_size wi a0) then (0 : Int32) else (1 : Int32)) = 0 then a0 else a1)), .int (q_Ref_split_we wi fr bi (if (if (q_Ref_size wi a1) ≤ (q_Ref_size wi a0) then (0 : Int32) else (1 : Int32)) = 0 then a0 else a1))]) (rest := []) hq hA hP hS (c_Ref_addX l A ad D cB cJ o r hne hA cd la (nI 4400) (0 : Int32) (0 : Int32) wi fr bi (q_Ref_split_mi wi fr bi (if (if (q_Ref_size wi a1) ≤ (q_Ref_size wi a0) then (0 : Int32) else (1 : Int32)) = 0 then a0 else a1)) (q_Ref_split_am wi fr bi (if (if (q_Ref_size wi a1) ≤ (q_Ref_size wi a0) then (0 : Int32) else (1 : Int32)) = 0 then a0 else a1)) (q_Ref_split_we wi fr bi (if (if (q_Ref_size wi a1) ≤ (q_Ref_size wi a0) then (0 : Int32) else (1 : Int32)) = 0 then a0 else a1)) f_24 0 hf_24 ri_0 (q_Ref_split_am wi fr bi (if (if (q_Ref_size wi a1) ≤ (q_Ref_size wi a0) then (0 : Int32) else (1 : Int32)) = 0 then a0 else a1)) (q_Ref_split_we wi fr bi (if (if (q_Ref_size wi a1) ≤ (q_Ref_size wi a0) then (0 : Int32) else (1 : Int32)) = 0 then a0 else a1)) (wt_ (q_Ref_split_we wi fr bi (if (if (q_Ref_size wi a1) ≤ (q_Ref_size wi a0) then (0 : Int32) else (1 : Int32)) = 0 then a0 else a1))) (sp_P hfm _).1 (by have := (sp_P hfm (if (if (q_Ref_size wi a1) ≤ (q_Ref_size wi a0) then (0 : Int32) else (1 : Int32)) = 0 then a0 else a1)).2; omega) (fits_row (by have := (sp_P hfm (if (if (q_Ref_size wi a1) ≤ (q_Ref_size wi a0) then (0 : Int32) else (1 : Int32)) = 0 then a0 else a1)).2; omega))) kB_Ref_add wt_611 ⟨rfl, rfl, Nat.le_of_ble_eq_true rfl, Nat.le_of_ble_eq_true rfl⟩ rfl hl.1 rfl (Nat.le_of_ble_eq_true rfl) d_Ref_sum_204 ⟨Nat.zero_le _, Nat.zero_le _⟩ (fun v9 fs9 f_25 H locs hk9 hP hS => ?_)
            obtain ⟨rfl, lo_25, hi_25, rfl, hf_25, hI_25⟩ := hk9
            refine lv_aload_n hx hb d_Ref_sum_207 rfl (lv_at hl 5 rfl) ?_
            refine lv_lload hx hb d_Ref_sum_208 (lv_at hl 2 rfl) ?_
            refine rv_v (As := [.long (if (if (q_Ref_size wi a1) ≤ (q_Ref_size wi a0) then (0 : Int32) else (1 : Int32)) = 0 then a1 else a0)]) (rest := []) hq hA hP hS (c_Ref_split l A ad D cB cJ o r hne hA cd la lo_25 hi_25 (0 : Int32) wi fr bi (q_Ref_split_mi wi fr bi (if (if (q_Ref_size wi a1) ≤ (q_Ref_size wi a0) then (0 : Int32) else (1 : Int32)) = 0 then a0 else a1)) (q_Ref_split_am wi fr bi (if (if (q_Ref_size wi a1) ≤ (q_Ref_size wi a0) then (0 : Int32) else (1 : Int32)) = 0 then a0 else a1)) (q_Ref_split_we wi fr bi (if (if (q_Ref_size wi a1) ≤ (q_Ref_size wi a0) then (0 : Int32) else (1 : Int32)) = 0 then a0 else a1)) f_25 (if (if (q_Ref_size wi a1) ≤ (q_Ref_size wi a0) then (0 : Int32) else (1 : Int32)) = 0 then a1 else a0)) kB_Ref_split wt_587 ⟨rfl, rfl, Nat.le_of_ble_eq_true rfl, Nat.le_of_ble_eq_true rfl⟩ rfl hl.1 rfl (Nat.le_of_ble_eq_true rfl) d_Ref_sum_210 ⟨Nat.zero_le _, Nat.zero_le _⟩ (fun H locs hP hS => ?_)
            refine lv_iload hx hb d_Ref_sum_213 (lv_at hl 1 rfl) ?_
            refine lv_if_eq (tgt := 233) hx hb d_Ref_sum_215 (by decide) (fun _ => ?_) (fun c9 => absurd c_20 c9)
            refine lv_aload_n hx hb d_Ref_sum_233 rfl (lv_at hl 5 rfl) ?_
            refine lv_aload_n hx hb d_Ref_sum_234 rfl (lv_at hl 5 rfl) ?_
            refine rg_ 10 hq hP (by decide) wt_494 rfl rfl d_Ref_sum_235 ?_
            refine lv_aload_n hx hb d_Ref_sum_238 rfl (lv_at hl 5 rfl) ?_
            refine rg_ 11 hq hP (by decide) wt_495 rfl rfl d_Ref_sum_239 ?_
            refine rq_ (As := [.long (q_Ref_split_am wi fr bi (if (if (q_Ref_size wi a1) ≤ (q_Ref_size wi a0) then (0 : Int32) else (1 : Int32)) = 0 then a1 else a0)), .int (q_Ref_split_we wi fr bi (if (if (q_Ref_size wi a1) ≤ (q_Ref_size wi a0) then (0 : Int32) else (1 : Int32)) = 0 then a1 else a0))]) (rest := []) hq hA hP hS (c_Ref_addX l A ad D cB cJ o r hne hA cd la lo_25 hi_25 (0 : Int32) wi fr bi (q_Ref_split_mi wi fr bi (if (if (q_Ref_size wi a1) ≤ (q_Ref_size wi a0) then (0 : Int32) else (1 : Int32)) = 0 then a1 else a0)) (q_Ref_split_am wi fr bi (if (if (q_Ref_size wi a1) ≤ (q_Ref_size wi a0) then (0 : Int32) else (1 : Int32)) = 0 then a1 else a0)) (q_Ref_split_we wi fr bi (if (if (q_Ref_size wi a1) ≤ (q_Ref_size wi a0) then (0 : Int32) else (1 : Int32)) = 0 then a1 else a0)) f_25 (0 + un_ (q_Ref_split_am wi fr bi (if (if (q_Ref_size wi a1) ≤ (q_Ref_size wi a0) then (0 : Int32) else (1 : Int32)) = 0 then a0 else a1)) * 2 ^ (wt_ (q_Ref_split_we wi fr bi (if (if (q_Ref_size wi a1) ≤ (q_Ref_size wi a0) then (0 : Int32) else (1 : Int32)) = 0 then a0 else a1)))) hf_25 hI_25 (q_Ref_split_am wi fr bi (if (if (q_Ref_size wi a1) ≤ (q_Ref_size wi a0) then (0 : Int32) else (1 : Int32)) = 0 then a1 else a0)) (q_Ref_split_we wi fr bi (if (if (q_Ref_size wi a1) ≤ (q_Ref_size wi a0) then (0 : Int32) else (1 : Int32)) = 0 then a1 else a0)) (wt_ (q_Ref_split_we wi fr bi (if (if (q_Ref_size wi a1) ≤ (q_Ref_size wi a0) then (0 : Int32) else (1 : Int32)) = 0 then a1 else a0))) (sp_P hfm _).1 (by have := (sp_P hfm (if (if (q_Ref_size wi a1) ≤ (q_Ref_size wi a0) then (0 : Int32) else (1 : Int32)) = 0 then a1 else a0)).2; omega) (fits_two (by have := (sp_P hfm (if (if (q_Ref_size wi a1) ≤ (q_Ref_size wi a0) then (0 : Int32) else (1 : Int32)) = 0 then a0 else a1)).2; omega) (by have := (sp_P hfm (if (if (q_Ref_size wi a1) ≤ (q_Ref_size wi a0) then (0 : Int32) else (1 : Int32)) = 0 then a1 else a0)).2; omega))) kB_Ref_add wt_611 ⟨rfl, rfl, Nat.le_of_ble_eq_true rfl, Nat.le_of_ble_eq_true rfl⟩ rfl hl.1 rfl (Nat.le_of_ble_eq_true rfl) d_Ref_sum_242 ⟨Nat.zero_le _, Nat.zero_le _⟩ (fun v9 fs9 f_26 H locs hk9 hP hS => ?_)
            obtain ⟨rfl, lo_26, hi_26, rfl, hf_26, hI_26⟩ := hk9
            refine lv_aload_n hx hb d_Ref_sum_245 rfl (lv_at hl 5 rfl) ?_
            refine lv_iload hx hb d_Ref_sum_246 (lv_at hl 0 rfl) ?_
            refine rv_l (As := [.int (q_Ref_split_mi wi fr bi (if (if (q_Ref_size wi a1) ≤ (q_Ref_size wi a0) then (0 : Int32) else (1 : Int32)) = 0 then a0 else a1))]) (rest := []) hq hA hP hS (c_Ref_rounded l A ad D cB cJ o r hne hA cd la lo_26 hi_26 (0 : Int32) wi fr bi (q_Ref_split_mi wi fr bi (if (if (q_Ref_size wi a1) ≤ (q_Ref_size wi a0) then (0 : Int32) else (1 : Int32)) = 0 then a1 else a0)) (q_Ref_split_am wi fr bi (if (if (q_Ref_size wi a1) ≤ (q_Ref_size wi a0) then (0 : Int32) else (1 : Int32)) = 0 then a1 else a0)) (q_Ref_split_we wi fr bi (if (if (q_Ref_size wi a1) ≤ (q_Ref_size wi a0) then (0 : Int32) else (1 : Int32)) = 0 then a1 else a0)) f_26 (q_Ref_split_mi wi fr bi (if (if (q_Ref_size wi a1) ≤ (q_Ref_size wi a0) then (0 : Int32) else (1 : Int32)) = 0 then a0 else a1)) ((0 + un_ (q_Ref_split_am wi fr bi (if (if (q_Ref_size wi a1) ≤ (q_Ref_size wi a0) then (0 : Int32) else (1 : Int32)) = 0 then a0 else a1)) * 2 ^ (wt_ (q_Ref_split_we wi fr bi (if (if (q_Ref_size wi a1) ≤ (q_Ref_size wi a0) then (0 : Int32) else (1 : Int32)) = 0 then a0 else a1)))) + un_ (q_Ref_split_am wi fr bi (if (if (q_Ref_size wi a1) ≤ (q_Ref_size wi a0) then (0 : Int32) else (1 : Int32)) = 0 then a1 else a0)) * 2 ^ (wt_ (q_Ref_split_we wi fr bi (if (if (q_Ref_size wi a1) ≤ (q_Ref_size wi a0) then (0 : Int32) else (1 : Int32)) = 0 then a1 else a0)))) F B hf_26 hI_26 (Nat.add_pos_left (rf_pos hfm c_23) _) (Or.inl rfl) (fmR_f hfm) (fmR_b hfm) (fmR_FB hfm)) kB_Ref_rounded wt_619 ⟨rfl, rfl, Nat.le_of_ble_eq_true rfl, Nat.le_of_ble_eq_true rfl⟩ rfl hl.1 rfl (Nat.le_of_ble_eq_true rfl) d_Ref_sum_248 ⟨Nat.zero_le _, Nat.zero_le _⟩ (fun H locs hP hS => ?_)
            exact qr_l hq hr hk hP hS ⟨congrArg (fun z => some (Value.long z)) (by unfold q_Ref_sum; exact (((if_pos c_1).trans ((if_pos c_4).trans ((if_pos c_9).trans ((if_pos c_20).trans ((if_pos c_23).trans rfl)))))).symm), _, _, _, _, _, _, _, _, _, _, rfl, (Or.inl rfl), hf_26, hI_26⟩ d_Ref_sum_251
          · refine lv_aload_n hx hb d_Ref_sum_152 rfl (lv_at hl 4 rfl) ?_
            refine lv_lconst (v := (0 : Int64)) hx hb d_Ref_sum_153 (by decide) ?_
            refine lv_aload_n hx hb d_Ref_sum_154 rfl (lv_at hl 4 rfl) ?_
            refine lv_lload_n hx hb d_Ref_sum_155 rfl (lv_at hl 5 rfl) ?_
            refine rv_i (As := [.long a0]) (rest := [.long (0 : Int64), .ref o]) hq hA hP hS (c_Ref_isMinus l A ad D cB cJ o r hne hA cd la lo hi re wi fr bi mi am we f a0) kB_Ref_isMinus wt_591 ⟨rfl, rfl, Nat.le_of_ble_eq_true rfl, Nat.le_of_ble_eq_true rfl⟩ rfl hl.1 rfl (Nat.le_of_ble_eq_true rfl) d_Ref_sum_156 ⟨Nat.zero_le _, Nat.zero_le _⟩ (fun H locs hP hS => ?_)
            refine lv_if_eq (tgt := 174) hx hb d_Ref_sum_159 (by decide) (fun c_28 => ?_) (fun c_28 => ?_)
            · refine lv_iconst (v := (0 : Int32)) hx hb d_Ref_sum_174 (by decide) ?_
              refine rv_l (As := [.long (0 : Int64), .int (0 : Int32)]) (rest := []) hq hA hP hS (c_Ref_signed l A ad D cB cJ o r hne hA cd la lo hi re wi fr bi mi am we f (0 : Int64) (0 : Int32)) kB_Ref_signed wt_579 ⟨rfl, rfl, Nat.le_of_ble_eq_true rfl, Nat.le_of_ble_eq_true rfl⟩ rfl hl.1 rfl (Nat.le_of_ble_eq_true rfl) d_Ref_sum_175 ⟨Nat.zero_le _, Nat.zero_le _⟩ (fun H locs hP hS => ?_)
              exact qr_l hq hr hk hP hS ⟨congrArg (fun z => some (Value.long z)) (by unfold q_Ref_sum; exact (((if_pos c_1).trans ((if_pos c_4).trans ((if_pos c_9).trans ((if_pos c_20).trans ((if_neg c_23).trans ((if_pos c_28).trans rfl))))))).symm), _, _, _, _, _, _, _, _, _, _, rfl, hre, hf, hI⟩ d_Ref_sum_178
            · refine lv_aload_n hx hb d_Ref_sum_162 rfl (lv_at hl 4 rfl) ?_
              refine lv_lload_n hx hb d_Ref_sum_163 rfl (lv_at hl 6 rfl) ?_
              refine rv_i (As := [.long a1]) (rest := [.long (0 : Int64), .ref o]) hq hA hP hS (c_Ref_isMinus l A ad D cB cJ o r hne hA cd la lo hi re wi fr bi mi am we f a1) kB_Ref_isMinus wt_591 ⟨rfl, rfl, Nat.le_of_ble_eq_true rfl, Nat.le_of_ble_eq_true rfl⟩ rfl hl.1 rfl (Nat.le_of_ble_eq_true rfl) d_Ref_sum_164 ⟨Nat.zero_le _, Nat.zero_le _⟩ (fun H locs hP hS => ?_)
              refine jn_ (J := 175) (ls := ls) (v := .int (if (q_Ref_isMinus wi a1) = 0 then (0 : Int32) else (1 : Int32))) (rest := [.long (0 : Int64), .ref o]) (fun hj => ?_) ?_
              · refine lv_if_eq (tgt := 174) hx hb d_Ref_sum_167 (by decide) (fun c_29 => ?_) (fun c_29 => ?_)
                · refine lv_iconst (v := (0 : Int32)) hx hb d_Ref_sum_174 (by decide) ?_
                  exact (by rw [if_pos c_29] at hj; exact hj)
                · refine lv_iconst (v := (1 : Int32)) hx hb d_Ref_sum_170 (by decide) ?_
                  refine lv_goto (tgt := 175) hx hb d_Ref_sum_171 (by decide) ?_
                  exact (by rw [if_neg c_29] at hj; exact hj)
              refine rv_l (As := [.long (0 : Int64), .int (if (q_Ref_isMinus wi a1) = 0 then (0 : Int32) else (1 : Int32))]) (rest := []) hq hA hP hS (c_Ref_signed l A ad D cB cJ o r hne hA cd la lo hi re wi fr bi mi am we f (0 : Int64) (if (q_Ref_isMinus wi a1) = 0 then (0 : Int32) else (1 : Int32))) kB_Ref_signed wt_579 ⟨rfl, rfl, Nat.le_of_ble_eq_true rfl, Nat.le_of_ble_eq_true rfl⟩ rfl hl.1 rfl (Nat.le_of_ble_eq_true rfl) d_Ref_sum_175 ⟨Nat.zero_le _, Nat.zero_le _⟩ (fun H locs hP hS => ?_)
              exact qr_l hq hr hk hP hS ⟨congrArg (fun z => some (Value.long z)) (by unfold q_Ref_sum; exact (((if_pos c_1).trans ((if_pos c_4).trans ((if_pos c_9).trans ((if_pos c_20).trans ((if_neg c_23).trans ((if_neg c_28).trans rfl))))))).symm), _, _, _, _, _, _, _, _, _, _, rfl, hre, hf, hI⟩ d_Ref_sum_178
    · refine lv_aload_n hx hb d_Ref_sum_16 rfl (lv_at hl 0 rfl) ?_
      refine lv_lload_n hx hb d_Ref_sum_17 rfl (lv_at hl 1 rfl) ?_
      refine rv_i (As := [.long a0]) (rest := []) hq hA hP hS (c_Ref_isInfinite l A ad D cB cJ o r hne hA cd la lo hi re wi fr bi mi am we f a0) kB_Ref_isInfinite wt_583 ⟨rfl, rfl, Nat.le_of_ble_eq_true rfl, Nat.le_of_ble_eq_true rfl⟩ rfl hl.1 rfl (Nat.le_of_ble_eq_true rfl) d_Ref_sum_18 ⟨Nat.zero_le _, Nat.zero_le _⟩ (fun H locs hP hS => ?_)
      refine lv_if_eq (tgt := 45) hx hb d_Ref_sum_21 (by decide) (fun _ => ?_) (fun c9 => absurd c_1 c9)
      refine lv_aload_n hx hb d_Ref_sum_45 rfl (lv_at hl 0 rfl) ?_
      refine lv_lload_n hx hb d_Ref_sum_46 rfl (lv_at hl 1 rfl) ?_
      refine rv_i (As := [.long a0]) (rest := []) hq hA hP hS (c_Ref_isInfinite l A ad D cB cJ o r hne hA cd la lo hi re wi fr bi mi am we f a0) kB_Ref_isInfinite wt_583 ⟨rfl, rfl, Nat.le_of_ble_eq_true rfl, Nat.le_of_ble_eq_true rfl⟩ rfl hl.1 rfl (Nat.le_of_ble_eq_true rfl) d_Ref_sum_47 ⟨Nat.zero_le _, Nat.zero_le _⟩ (fun H locs hP hS => ?_)
      refine lv_if_eq (tgt := 57) hx hb d_Ref_sum_50 (by decide) (fun _ => ?_) (fun c9 => absurd c_1 c9)
      refine lv_lload_n hx hb d_Ref_sum_57 rfl (lv_at hl 2 rfl) ?_
      exact qr_l hq hr hk hP hS ⟨congrArg (fun z => some (Value.long z)) (by unfold q_Ref_sum; exact (((if_pos c_1).trans ((if_neg c_4).trans rfl))).symm), _, _, _, _, _, _, _, _, _, _, rfl, hre, hf, hI⟩ d_Ref_sum_58
