def q_Ref_floated (F B : Nat) (wi : Int32) (fr : Int32) (bi : Int32) (a0 : Int32) (a1 : Int64) (a2 : Int64) : Int64 :=
  if a0 = (0 : Int32) then
    (q_Ref_size wi a1)
  else
    if a0 = (1 : Int32) then
      (a1 ^^^ (shl_ (1 : Int64) (wi - (1 : Int32))))
    else
      if a0 = (13 : Int32) then
        (q_Ref_signed wi (q_Ref_size wi a1) (q_Ref_isMinus wi a2))
      else
        if (q_Ref_isNone wi fr bi a1) = 0 then
          if a0 ≤ (6 : Int32) then
            if a0 = (2 : Int32) then
              (q_Ref_whole F B wi fr bi (3 : Int32) a1)
            else
              if a0 = (3 : Int32) then
                (q_Ref_whole F B wi fr bi (4 : Int32) a1)
              else
                if a0 = (4 : Int32) then
                  (q_Ref_whole F B wi fr bi (5 : Int32) a1)
                else
                  if a0 = (5 : Int32) then
                    (q_Ref_whole F B wi fr bi (6 : Int32) a1)
                  else
                    if a0 = (6 : Int32) then
                      (q_Ref_root F B wi fr bi a1)
                    else
                      if a0 = (7 : Int32) then
                        (q_Ref_sum F B wi fr bi a1 a2)
                      else
                        if a0 = (8 : Int32) then
                          (q_Ref_sum F B wi fr bi a1 (a2 ^^^ (shl_ (1 : Int64) (wi - (1 : Int32)))))
                        else
                          if a0 = (9 : Int32) then
                            (q_Ref_product F B wi fr bi a1 a2)
                          else
                            if a0 = (10 : Int32) then
                              (q_Ref_quotient F B wi fr bi a1 a2)
                            else
                              (q_Ref_lesser wi (if a0 = (12 : Int32) then (1 : Int32) else (0 : Int32)) a1 a2)
          else
            if (q_Ref_isNone wi fr bi a2) = 0 then
              if a0 = (2 : Int32) then
                (q_Ref_whole F B wi fr bi (3 : Int32) a1)
              else
                if a0 = (3 : Int32) then
                  (q_Ref_whole F B wi fr bi (4 : Int32) a1)
                else
                  if a0 = (4 : Int32) then
                    (q_Ref_whole F B wi fr bi (5 : Int32) a1)
                  else
                    if a0 = (5 : Int32) then
                      (q_Ref_whole F B wi fr bi (6 : Int32) a1)
                    else
                      if a0 = (6 : Int32) then
                        (q_Ref_root F B wi fr bi a1)
                      else
                        if a0 = (7 : Int32) then
                          (q_Ref_sum F B wi fr bi a1 a2)
                        else
                          if a0 = (8 : Int32) then
                            (q_Ref_sum F B wi fr bi a1 (a2 ^^^ (shl_ (1 : Int64) (wi - (1 : Int32)))))
                          else
                            if a0 = (9 : Int32) then
                              (q_Ref_product F B wi fr bi a1 a2)
                            else
                              if a0 = (10 : Int32) then
                                (q_Ref_quotient F B wi fr bi a1 a2)
                              else
                                (q_Ref_lesser wi (if a0 = (12 : Int32) then (1 : Int32) else (0 : Int32)) a1 a2)
            else
              (q_Ref_noNumber wi)
        else
          (q_Ref_noNumber wi)
theorem kB_Ref_floated : RB y_Ref_floated b_Ref_floated 6 (some .long) 3 := ⟨wt_648, wt_647, wt_22, wt_36, by decide +kernel⟩
set_option maxHeartbeats 4000000 in
set_option maxRecDepth 100000 in
theorem c_Ref_floated (l : Launch) (A : Nat → Prop) (ad : Nat → Nat) (D : va_G) (cB cJ : ClassId) (o r : Nat) (hne : o ≠ r) (hA : ∀ q, rA o r q → A q) (cd : Int32) (la : Int64) (lo : Int32) (hi : Int32) (re : Int32) (wi : Int32) (fr : Int32) (bi : Int32) (mi : Int32) (am : Int64) (we : Int32) (f : Nat → Int32) (N : Nat) (hf : RowIs f N) (hI : RI lo hi N) (hre : re = 0 ∨ re = 1) (a0 : Int32) (a1 : Int64) (a2 : Int64) (F B : Nat) (hfm : fmR wi fr bi F B) : Met l y_Ref_floated (Cond.code y_Ref_floated b_Ref_floated 6 (some .long) :: BT) ({ frames := 4, cells := 0, slots := 0, locals := 104 }) (PR A ad D cB cJ o r (rf_ cd la r lo hi re wi fr bi mi am we) f [.int a0, .long a1, .long a2]) (QP D cB o r (fun v fs' f' => v = some (.long (q_Ref_floated F B wi fr bi a0 a1 a2)) ∧ SJ r cd la fs' f')) 0 0 (rA o r) := by
  refine pr_ (by decide) (Nat.le_of_ble_eq_true rfl) ?_
  intro p e s m below meth c hq hP hS hr hk ls hl
  have hx := hq.1
  have hb := hq.2.1
  have hts := hq.2.2.2.2.1
  have hl : lv_has ls 6 [(0, .ref o), (1, .int a0), (2, .long a1), (4, .long a2)] := hl
  refine lv_iload_n hx hb d_Ref_floated_0 rfl (lv_at hl 1 rfl) ?_
  by_cases c_1 : a0 = (0 : Int32)
  · refine lv_lookup (off := (35 : Int)) (tgt := 36) hx hb d_Ref_floated_1 (by decide) (by rw [c_1] <;> rfl) (by decide) ?_
    refine lv_aload_n hx hb d_Ref_floated_36 rfl (lv_at hl 0 rfl) ?_
    refine lv_lload_n hx hb d_Ref_floated_37 rfl (lv_at hl 2 rfl) ?_
    refine rv_l (As := [.long a1]) (rest := []) hq hA hP hS (c_Ref_size l A ad D cB cJ o r hne hA cd la lo hi re wi fr bi mi am we f a1) kB_Ref_size wt_570 ⟨rfl, rfl, Nat.le_of_ble_eq_true rfl, Nat.le_of_ble_eq_true rfl⟩ rfl hl.1 rfl (Nat.le_of_ble_eq_true rfl) d_Ref_floated_38 ⟨Nat.zero_le _, Nat.zero_le _⟩ (fun H locs hP hS => ?_)
    exact qr_l hq hr hk hP hS ⟨congrArg (fun z => some (Value.long z)) (by unfold q_Ref_floated; exact (((if_pos c_1).trans rfl)).symm), _, _, _, _, _, _, _, _, _, _, rfl, hre, hf, hI⟩ d_Ref_floated_41
  by_cases c_2 : a0 = (1 : Int32)
  · refine lv_lookup (off := (41 : Int)) (tgt := 42) hx hb d_Ref_floated_1 (by decide) (by rw [c_2] <;> rfl) (by decide) ?_
    refine lv_lload_n hx hb d_Ref_floated_42 rfl (lv_at hl 2 rfl) ?_
    refine lv_lconst (v := (1 : Int64)) hx hb d_Ref_floated_43 (by decide) ?_
    refine lv_aload_n hx hb d_Ref_floated_44 rfl (lv_at hl 0 rfl) ?_
    refine rg_ 6 hq hP (by decide) wt_490 rfl rfl d_Ref_floated_45 ?_
    refine lv_iconst (v := (1 : Int32)) hx hb d_Ref_floated_48 (by decide) ?_
    refine lv_isub hx hb d_Ref_floated_49 ?_
    refine lv_lshl (v := (shl_ (1 : Int64) (wi - (1 : Int32)))) hx hb d_Ref_floated_50 rfl ?_
    refine lv_lxor hx hb d_Ref_floated_51 ?_
    exact qr_l hq hr hk hP hS ⟨congrArg (fun z => some (Value.long z)) (by unfold q_Ref_floated; exact (((if_neg c_1).trans ((if_pos c_2).trans rfl))).symm), _, _, _, _, _, _, _, _, _, _, rfl, hre, hf, hI⟩ d_Ref_floated_52
  by_cases c_3 : a0 = (13 : Int32)
  · refine lv_lookup (off := (52 : Int)) (tgt := 53) hx hb d_Ref_floated_1 (by decide) (by rw [c_3] <;> rfl) (by decide) ?_
    refine lv_aload_n hx hb d_Ref_floated_53 rfl (lv_at hl 0 rfl) ?_
    refine lv_aload_n hx hb d_Ref_floated_54 rfl (lv_at hl 0 rfl) ?_
    refine lv_lload_n hx hb d_Ref_floated_55 rfl (lv_at hl 2 rfl) ?_
    refine rv_l (As := [.long a1]) (rest := [.ref o]) hq hA hP hS (c_Ref_size l A ad D cB cJ o r hne hA cd la lo hi re wi fr bi mi am we f a1) kB_Ref_size wt_570 ⟨rfl, rfl, Nat.le_of_ble_eq_true rfl, Nat.le_of_ble_eq_true rfl⟩ rfl hl.1 rfl (Nat.le_of_ble_eq_true rfl) d_Ref_floated_56 ⟨Nat.zero_le _, Nat.zero_le _⟩ (fun H locs hP hS => ?_)
    refine lv_aload_n hx hb d_Ref_floated_59 rfl (lv_at hl 0 rfl) ?_
    refine lv_lload hx hb d_Ref_floated_60 (lv_at hl 3 rfl) ?_
    refine rv_i (As := [.long a2]) (rest := [.long (q_Ref_size wi a1), .ref o]) hq hA hP hS (c_Ref_isMinus l A ad D cB cJ o r hne hA cd la lo hi re wi fr bi mi am we f a2) kB_Ref_isMinus wt_591 ⟨rfl, rfl, Nat.le_of_ble_eq_true rfl, Nat.le_of_ble_eq_true rfl⟩ rfl hl.1 rfl (Nat.le_of_ble_eq_true rfl) d_Ref_floated_62 ⟨Nat.zero_le _, Nat.zero_le _⟩ (fun H locs hP hS => ?_)
    refine rv_l (As := [.long (q_Ref_size wi a1), .int (q_Ref_isMinus wi a2)]) (rest := []) hq hA hP hS (c_Ref_signed l A ad D cB cJ o r hne hA cd la lo hi re wi fr bi mi am we f (q_Ref_size wi a1) (q_Ref_isMinus wi a2)) kB_Ref_signed wt_579 ⟨rfl, rfl, Nat.le_of_ble_eq_true rfl, Nat.le_of_ble_eq_true rfl⟩ rfl hl.1 rfl (Nat.le_of_ble_eq_true rfl) d_Ref_floated_65 ⟨Nat.zero_le _, Nat.zero_le _⟩ (fun H locs hP hS => ?_)
    exact qr_l hq hr hk hP hS ⟨congrArg (fun z => some (Value.long z)) (by unfold q_Ref_floated; exact (((if_neg c_1).trans ((if_neg c_2).trans ((if_pos c_3).trans rfl)))).symm), _, _, _, _, _, _, _, _, _, _, rfl, hre, hf, hI⟩ d_Ref_floated_68
  refine lv_lookup (off := (68 : Int)) (tgt := 69) hx hb d_Ref_floated_1 (by decide) ((lv_osw c_1 (by decide)).trans <| (lv_osw c_2 (by decide)).trans <| (lv_osw c_3 (by decide)).trans <| rfl) (by decide) ?_
  refine lv_aload_n hx hb d_Ref_floated_69 rfl (lv_at hl 0 rfl) ?_
  refine lv_lload_n hx hb d_Ref_floated_70 rfl (lv_at hl 2 rfl) ?_
  refine rv_i (As := [.long a1]) (rest := []) hq hA hP hS (c_Ref_isNone l A ad D cB cJ o r hne hA cd la lo hi re wi fr bi mi am we f a1) kB_Ref_isNone wt_566 ⟨rfl, rfl, Nat.le_of_ble_eq_true rfl, Nat.le_of_ble_eq_true rfl⟩ rfl hl.1 rfl (Nat.le_of_ble_eq_true rfl) d_Ref_floated_71 ⟨Nat.zero_le _, Nat.zero_le _⟩ (fun H locs hP hS => ?_)
  refine lv_if_ne (tgt := 92) hx hb d_Ref_floated_74 (by decide) (fun c_4 => ?_) (fun c_4 => ?_)
  · refine lv_aload_n hx hb d_Ref_floated_92 rfl (lv_at hl 0 rfl) ?_
    refine rv_l (As := []) (rest := []) hq hA hP hS (c_Ref_noNumber l A ad D cB cJ o r hne hA cd la lo hi re wi fr bi mi am we f ) kB_Ref_noNumber wt_639 ⟨rfl, rfl, Nat.le_of_ble_eq_true rfl, Nat.le_of_ble_eq_true rfl⟩ rfl hl.1 rfl (Nat.le_of_ble_eq_true rfl) d_Ref_floated_93 ⟨Nat.zero_le _, Nat.zero_le _⟩ (fun H locs hP hS => ?_)
    exact qr_l hq hr hk hP hS ⟨congrArg (fun z => some (Value.long z)) (by unfold q_Ref_floated; exact (((if_neg c_1).trans ((if_neg c_2).trans ((if_neg c_3).trans ((if_neg c_4).trans rfl))))).symm), _, _, _, _, _, _, _, _, _, _, rfl, hre, hf, hI⟩ d_Ref_floated_96
  · refine lv_iload_n hx hb d_Ref_floated_77 rfl (lv_at hl 1 rfl) ?_
    refine lv_bipush (v := (6 : Int32)) hx hb d_Ref_floated_78 (by decide) ?_
    refine lv_icmp_le (tgt := 97) hx hb d_Ref_floated_80 (by decide) (fun c_5 => ?_) (fun c_5 => ?_)
    · refine lv_iload_n hx hb d_Ref_floated_97 rfl (lv_at hl 1 rfl) ?_
      by_cases c_6 : a0 = (2 : Int32)
      · refine lv_tableIn (tgt := 148) hx hb d_Ref_floated_98 (by rw [c_6]; decide) (by rw [c_6]; decide) (by rw [c_6]; rfl) (by decide) ?_
        refine lv_aload_n hx hb d_Ref_floated_148 rfl (lv_at hl 0 rfl) ?_
        refine lv_iconst (v := (3 : Int32)) hx hb d_Ref_floated_149 (by decide) ?_
        refine lv_lload_n hx hb d_Ref_floated_150 rfl (lv_at hl 2 rfl) ?_
        refine rq_ (As := [.int (3 : Int32), .long a1]) (rest := []) hq hA hP hS (c_Ref_whole l A ad D cB cJ o r hne hA cd la lo hi re wi fr bi mi am we f N hf hI hre (3 : Int32) a1 F B hfm) kB_Ref_whole wt_649 ⟨rfl, rfl, Nat.le_of_ble_eq_true rfl, Nat.le_of_ble_eq_true rfl⟩ rfl hl.1 rfl (Nat.le_of_ble_eq_true rfl) d_Ref_floated_151 ⟨Nat.zero_le _, Nat.zero_le _⟩ (fun v9 fs9 f_7 H locs hk9 hP hS => ?_)
        obtain ⟨rfl, lo_7, hi_7, re_7, wi_7, fr_7, bi_7, mi_7, am_7, we_7, N_7, rfl, hre_7, hf_7, hI_7⟩ := hk9
        exact qr_l hq hr hk hP hS ⟨congrArg (fun z => some (Value.long z)) (by unfold q_Ref_floated; exact (((if_neg c_1).trans ((if_neg c_2).trans ((if_neg c_3).trans ((if_pos c_4).trans ((if_pos c_5).trans ((if_pos c_6).trans rfl))))))).symm), _, _, _, _, _, _, _, _, _, _, rfl, hre_7, hf_7, hI_7⟩ d_Ref_floated_154
      by_cases c_8 : a0 = (3 : Int32)
      · refine lv_tableIn (tgt := 155) hx hb d_Ref_floated_98 (by rw [c_8]; decide) (by rw [c_8]; decide) (by rw [c_8]; rfl) (by decide) ?_
        refine lv_aload_n hx hb d_Ref_floated_155 rfl (lv_at hl 0 rfl) ?_
        refine lv_iconst (v := (4 : Int32)) hx hb d_Ref_floated_156 (by decide) ?_
        refine lv_lload_n hx hb d_Ref_floated_157 rfl (lv_at hl 2 rfl) ?_
        refine rq_ (As := [.int (4 : Int32), .long a1]) (rest := []) hq hA hP hS (c_Ref_whole l A ad D cB cJ o r hne hA cd la lo hi re wi fr bi mi am we f N hf hI hre (4 : Int32) a1 F B hfm) kB_Ref_whole wt_649 ⟨rfl, rfl, Nat.le_of_ble_eq_true rfl, Nat.le_of_ble_eq_true rfl⟩ rfl hl.1 rfl (Nat.le_of_ble_eq_true rfl) d_Ref_floated_158 ⟨Nat.zero_le _, Nat.zero_le _⟩ (fun v9 fs9 f_9 H locs hk9 hP hS => ?_)
        obtain ⟨rfl, lo_9, hi_9, re_9, wi_9, fr_9, bi_9, mi_9, am_9, we_9, N_9, rfl, hre_9, hf_9, hI_9⟩ := hk9
        exact qr_l hq hr hk hP hS ⟨congrArg (fun z => some (Value.long z)) (by unfold q_Ref_floated; exact (((if_neg c_1).trans ((if_neg c_2).trans ((if_neg c_3).trans ((if_pos c_4).trans ((if_pos c_5).trans ((if_neg c_6).trans ((if_pos c_8).trans rfl)))))))).symm), _, _, _, _, _, _, _, _, _, _, rfl, hre_9, hf_9, hI_9⟩ d_Ref_floated_161
      by_cases c_10 : a0 = (4 : Int32)
      · refine lv_tableIn (tgt := 162) hx hb d_Ref_floated_98 (by rw [c_10]; decide) (by rw [c_10]; decide) (by rw [c_10]; rfl) (by decide) ?_
        refine lv_aload_n hx hb d_Ref_floated_162 rfl (lv_at hl 0 rfl) ?_
        refine lv_iconst (v := (5 : Int32)) hx hb d_Ref_floated_163 (by decide) ?_
        refine lv_lload_n hx hb d_Ref_floated_164 rfl (lv_at hl 2 rfl) ?_
        refine rq_ (As := [.int (5 : Int32), .long a1]) (rest := []) hq hA hP hS (c_Ref_whole l A ad D cB cJ o r hne hA cd la lo hi re wi fr bi mi am we f N hf hI hre (5 : Int32) a1 F B hfm) kB_Ref_whole wt_649 ⟨rfl, rfl, Nat.le_of_ble_eq_true rfl, Nat.le_of_ble_eq_true rfl⟩ rfl hl.1 rfl (Nat.le_of_ble_eq_true rfl) d_Ref_floated_165 ⟨Nat.zero_le _, Nat.zero_le _⟩ (fun v9 fs9 f_11 H locs hk9 hP hS => ?_)
        obtain ⟨rfl, lo_11, hi_11, re_11, wi_11, fr_11, bi_11, mi_11, am_11, we_11, N_11, rfl, hre_11, hf_11, hI_11⟩ := hk9
        exact qr_l hq hr hk hP hS ⟨congrArg (fun z => some (Value.long z)) (by unfold q_Ref_floated; exact (((if_neg c_1).trans ((if_neg c_2).trans ((if_neg c_3).trans ((if_pos c_4).trans ((if_pos c_5).trans ((if_neg c_6).trans ((if_neg c_8).trans ((if_pos c_10).trans rfl))))))))).symm), _, _, _, _, _, _, _, _, _, _, rfl, hre_11, hf_11, hI_11⟩ d_Ref_floated_168
      by_cases c_12 : a0 = (5 : Int32)
      · refine lv_tableIn (tgt := 169) hx hb d_Ref_floated_98 (by rw [c_12]; decide) (by rw [c_12]; decide) (by rw [c_12]; rfl) (by decide) ?_
        refine lv_aload_n hx hb d_Ref_floated_169 rfl (lv_at hl 0 rfl) ?_
        refine lv_bipush (v := (6 : Int32)) hx hb d_Ref_floated_170 (by decide) ?_
        refine lv_lload_n hx hb d_Ref_floated_172 rfl (lv_at hl 2 rfl) ?_
        refine rq_ (As := [.int (6 : Int32), .long a1]) (rest := []) hq hA hP hS (c_Ref_whole l A ad D cB cJ o r hne hA cd la lo hi re wi fr bi mi am we f N hf hI hre (6 : Int32) a1 F B hfm) kB_Ref_whole wt_649 ⟨rfl, rfl, Nat.le_of_ble_eq_true rfl, Nat.le_of_ble_eq_true rfl⟩ rfl hl.1 rfl (Nat.le_of_ble_eq_true rfl) d_Ref_floated_173 ⟨Nat.zero_le _, Nat.zero_le _⟩ (fun v9 fs9 f_13 H locs hk9 hP hS => ?_)
        obtain ⟨rfl, lo_13, hi_13, re_13, wi_13, fr_13, bi_13, mi_13, am_13, we_13, N_13, rfl, hre_13, hf_13, hI_13⟩ := hk9
        exact qr_l hq hr hk hP hS ⟨congrArg (fun z => some (Value.long z)) (by unfold q_Ref_floated; exact (((if_neg c_1).trans ((if_neg c_2).trans ((if_neg c_3).trans ((if_pos c_4).trans ((if_pos c_5).trans ((if_neg c_6).trans ((if_neg c_8).trans ((if_neg c_10).trans ((if_pos c_12).trans rfl)))))))))).symm), _, _, _, _, _, _, _, _, _, _, rfl, hre_13, hf_13, hI_13⟩ d_Ref_floated_176
      by_cases c_14 : a0 = (6 : Int32)
      · refine lv_tableIn (tgt := 177) hx hb d_Ref_floated_98 (by rw [c_14]; decide) (by rw [c_14]; decide) (by rw [c_14]; rfl) (by decide) ?_
        refine lv_aload_n hx hb d_Ref_floated_177 rfl (lv_at hl 0 rfl) ?_
        refine lv_lload_n hx hb d_Ref_floated_178 rfl (lv_at hl 2 rfl) ?_
        refine rq_ (As := [.long a1]) (rest := []) hq hA hP hS (c_Ref_root l A ad D cB cJ o r hne hA cd la lo hi re wi fr bi mi am we f N hf hI hre a1 F B hfm) kB_Ref_root wt_653 ⟨rfl, rfl, Nat.le_of_ble_eq_true rfl, Nat.le_of_ble_eq_true rfl⟩ rfl hl.1 rfl (Nat.le_of_ble_eq_true rfl) d_Ref_floated_179 ⟨Nat.zero_le _, Nat.zero_le _⟩ (fun v9 fs9 f_15 H locs hk9 hP hS => ?_)
        obtain ⟨rfl, lo_15, hi_15, re_15, wi_15, fr_15, bi_15, mi_15, am_15, we_15, N_15, rfl, hre_15, hf_15, hI_15⟩ := hk9
        exact qr_l hq hr hk hP hS ⟨congrArg (fun z => some (Value.long z)) (by unfold q_Ref_floated; exact (((if_neg c_1).trans ((if_neg c_2).trans ((if_neg c_3).trans ((if_pos c_4).trans ((if_pos c_5).trans ((if_neg c_6).trans ((if_neg c_8).trans ((if_neg c_10).trans ((if_neg c_12).trans ((if_pos c_14).trans rfl))))))))))).symm), _, _, _, _, _, _, _, _, _, _, rfl, hre_15, hf_15, hI_15⟩ d_Ref_floated_182
      by_cases c_16 : a0 = (7 : Int32)
      · refine lv_tableIn (tgt := 183) hx hb d_Ref_floated_98 (by rw [c_16]; decide) (by rw [c_16]; decide) (by rw [c_16]; rfl) (by decide) ?_
        refine lv_aload_n hx hb d_Ref_floated_183 rfl (lv_at hl 0 rfl) ?_
        refine lv_lload_n hx hb d_Ref_floated_184 rfl (lv_at hl 2 rfl) ?_
        refine lv_lload hx hb d_Ref_floated_185 (lv_at hl 3 rfl) ?_
        refine rq_ (As := [.long a1, .long a2]) (rest := []) hq hA hP hS (c_Ref_sum l A ad D cB cJ o r hne hA cd la lo hi re wi fr bi mi am we f N hf hI hre a1 a2 F B hfm) kB_Ref_sum wt_659 ⟨rfl, rfl, Nat.le_of_ble_eq_true rfl, Nat.le_of_ble_eq_true rfl⟩ rfl hl.1 rfl (Nat.le_of_ble_eq_true rfl) d_Ref_floated_187 ⟨Nat.zero_le _, Nat.zero_le _⟩ (fun v9 fs9 f_17 H locs hk9 hP hS => ?_)
        obtain ⟨rfl, lo_17, hi_17, re_17, wi_17, fr_17, bi_17, mi_17, am_17, we_17, N_17, rfl, hre_17, hf_17, hI_17⟩ := hk9
        exact qr_l hq hr hk hP hS ⟨congrArg (fun z => some (Value.long z)) (by unfold q_Ref_floated; exact (((if_neg c_1).trans ((if_neg c_2).trans ((if_neg c_3).trans ((if_pos c_4).trans ((if_pos c_5).trans ((if_neg c_6).trans ((if_neg c_8).trans ((if_neg c_10).trans ((if_neg c_12).trans ((if_neg c_14).trans ((if_pos c_16).trans rfl)))))))))))).symm), _, _, _, _, _, _, _, _, _, _, rfl, hre_17, hf_17, hI_17⟩ d_Ref_floated_190
      by_cases c_18 : a0 = (8 : Int32)
      · refine lv_tableIn (tgt := 191) hx hb d_Ref_floated_98 (by rw [c_18]; decide) (by rw [c_18]; decide) (by rw [c_18]; rfl) (by decide) ?_
        refine lv_aload_n hx hb d_Ref_floated_191 rfl (lv_at hl 0 rfl) ?_
        refine lv_lload_n hx hb d_Ref_floated_192 rfl (lv_at hl 2 rfl) ?_
        refine lv_lload hx hb d_Ref_floated_193 (lv_at hl 3 rfl) ?_
        refine lv_lconst (v := (1 : Int64)) hx hb d_Ref_floated_195 (by decide) ?_
        refine lv_aload_n hx hb d_Ref_floated_196 rfl (lv_at hl 0 rfl) ?_
        refine rg_ 6 hq hP (by decide) wt_490 rfl rfl d_Ref_floated_197 ?_
        refine lv_iconst (v := (1 : Int32)) hx hb d_Ref_floated_200 (by decide) ?_
        refine lv_isub hx hb d_Ref_floated_201 ?_
        refine lv_lshl (v := (shl_ (1 : Int64) (wi - (1 : Int32)))) hx hb d_Ref_floated_202 rfl ?_
        refine lv_lxor hx hb d_Ref_floated_203 ?_
        refine rq_ (As := [.long a1, .long (a2 ^^^ (shl_ (1 : Int64) (wi - (1 : Int32))))]) (rest := []) hq hA hP hS (c_Ref_sum l A ad D cB cJ o r hne hA cd la lo hi re wi fr bi mi am we f N hf hI hre a1 (a2 ^^^ (shl_ (1 : Int64) (wi - (1 : Int32)))) F B hfm) kB_Ref_sum wt_659 ⟨rfl, rfl, Nat.le_of_ble_eq_true rfl, Nat.le_of_ble_eq_true rfl⟩ rfl hl.1 rfl (Nat.le_of_ble_eq_true rfl) d_Ref_floated_204 ⟨Nat.zero_le _, Nat.zero_le _⟩ (fun v9 fs9 f_19 H locs hk9 hP hS => ?_)
        obtain ⟨rfl, lo_19, hi_19, re_19, wi_19, fr_19, bi_19, mi_19, am_19, we_19, N_19, rfl, hre_19, hf_19, hI_19⟩ := hk9
        exact qr_l hq hr hk hP hS ⟨congrArg (fun z => some (Value.long z)) (by unfold q_Ref_floated; exact (((if_neg c_1).trans ((if_neg c_2).trans ((if_neg c_3).trans ((if_pos c_4).trans ((if_pos c_5).trans ((if_neg c_6).trans ((if_neg c_8).trans ((if_neg c_10).trans ((if_neg c_12).trans ((if_neg c_14).trans ((if_neg c_16).trans ((if_pos c_18).trans rfl))))))))))))).symm), _, _, _, _, _, _, _, _, _, _, rfl, hre_19, hf_19, hI_19⟩ d_Ref_floated_207
      by_cases c_20 : a0 = (9 : Int32)
      · refine lv_tableIn (tgt := 208) hx hb d_Ref_floated_98 (by rw [c_20]; decide) (by rw [c_20]; decide) (by rw [c_20]; rfl) (by decide) ?_
        refine lv_aload_n hx hb d_Ref_floated_208 rfl (lv_at hl 0 rfl) ?_
        refine lv_lload_n hx hb d_Ref_floated_209 rfl (lv_at hl 2 rfl) ?_
        refine lv_lload hx hb d_Ref_floated_210 (lv_at hl 3 rfl) ?_
        refine rq_ (As := [.long a1, .long a2]) (rest := []) hq hA hP hS (c_Ref_product l A ad D cB cJ o r hne hA cd la lo hi re wi fr bi mi am we f N hf hI hre a1 a2 F B hfm) kB_Ref_product wt_667 ⟨rfl, rfl, Nat.le_of_ble_eq_true rfl, Nat.le_of_ble_eq_true rfl⟩ rfl hl.1 rfl (Nat.le_of_ble_eq_true rfl) d_Ref_floated_212 ⟨Nat.zero_le _, Nat.zero_le _⟩ (fun v9 fs9 f_21 H locs hk9 hP hS => ?_)
        obtain ⟨rfl, lo_21, hi_21, re_21, wi_21, fr_21, bi_21, mi_21, am_21, we_21, N_21, rfl, hre_21, hf_21, hI_21⟩ := hk9
        exact qr_l hq hr hk hP hS ⟨congrArg (fun z => some (Value.long z)) (by unfold q_Ref_floated; exact (((if_neg c_1).trans ((if_neg c_2).trans ((if_neg c_3).trans ((if_pos c_4).trans ((if_pos c_5).trans ((if_neg c_6).trans ((if_neg c_8).trans ((if_neg c_10).trans ((if_neg c_12).trans ((if_neg c_14).trans ((if_neg c_16).trans ((if_neg c_18).trans ((if_pos c_20).trans rfl)))))))))))))).symm), _, _, _, _, _, _, _, _, _, _, rfl, hre_21, hf_21, hI_21⟩ d_Ref_floated_215
      by_cases c_22 : a0 = (10 : Int32)
      · refine lv_tableIn (tgt := 216) hx hb d_Ref_floated_98 (by rw [c_22]; decide) (by rw [c_22]; decide) (by rw [c_22]; rfl) (by decide) ?_
        refine lv_aload_n hx hb d_Ref_floated_216 rfl (lv_at hl 0 rfl) ?_
        refine lv_lload_n hx hb d_Ref_floated_217 rfl (lv_at hl 2 rfl) ?_
        refine lv_lload hx hb d_Ref_floated_218 (lv_at hl 3 rfl) ?_
        refine rq_ (As := [.long a1, .long a2]) (rest := []) hq hA hP hS (c_Ref_quotient l A ad D cB cJ o r hne hA cd la lo hi re wi fr bi mi am we f N hf hI hre a1 a2 F B hfm) kB_Ref_quotient wt_671 ⟨rfl, rfl, Nat.le_of_ble_eq_true rfl, Nat.le_of_ble_eq_true rfl⟩ rfl hl.1 rfl (Nat.le_of_ble_eq_true rfl) d_Ref_floated_220 ⟨Nat.zero_le _, Nat.zero_le _⟩ (fun v9 fs9 f_23 H locs hk9 hP hS => ?_)
        obtain ⟨rfl, lo_23, hi_23, re_23, wi_23, fr_23, bi_23, mi_23, am_23, we_23, N_23, rfl, hre_23, hf_23, hI_23⟩ := hk9
        exact qr_l hq hr hk hP hS ⟨congrArg (fun z => some (Value.long z)) (by unfold q_Ref_floated; exact (((if_neg c_1).trans ((if_neg c_2).trans ((if_neg c_3).trans ((if_pos c_4).trans ((if_pos c_5).trans ((if_neg c_6).trans ((if_neg c_8).trans ((if_neg c_10).trans ((if_neg c_12).trans ((if_neg c_14).trans ((if_neg c_16).trans ((if_neg c_18).trans ((if_neg c_20).trans ((if_pos c_22).trans rfl))))))))))))))).symm), _, _, _, _, _, _, _, _, _, _, rfl, hre_23, hf_23, hI_23⟩ d_Ref_floated_223
      have hsw : a0.toInt < 2 ∨ 10 < a0.toInt := by
        have := lv_neT c_6 (a := 2) (by decide)
        have := lv_neT c_8 (a := 3) (by decide)
        have := lv_neT c_10 (a := 4) (by decide)
        have := lv_neT c_12 (a := 5) (by decide)
        have := lv_neT c_14 (a := 6) (by decide)
        have := lv_neT c_16 (a := 7) (by decide)
        have := lv_neT c_18 (a := 8) (by decide)
        have := lv_neT c_20 (a := 9) (by decide)
        have := lv_neT c_22 (a := 10) (by decide)
        omega
      refine lv_tableOut (tgt := 224) hx hb d_Ref_floated_98 hsw (by decide) ?_
      refine lv_aload_n hx hb d_Ref_floated_224 rfl (lv_at hl 0 rfl) ?_
      refine lv_iload_n hx hb d_Ref_floated_225 rfl (lv_at hl 1 rfl) ?_
      refine lv_bipush (v := (12 : Int32)) hx hb d_Ref_floated_226 (by decide) ?_
      refine jn_ (J := 236) (ls := ls) (v := .int (if a0 = (12 : Int32) then (1 : Int32) else (0 : Int32))) (rest := [.ref o]) (fun hj => ?_) ?_
      · refine lv_icmp_ne (tgt := 235) hx hb d_Ref_floated_228 (by decide) (fun c_24 => ?_) (fun c_24 => ?_)
        · refine lv_iconst (v := (0 : Int32)) hx hb d_Ref_floated_235 (by decide) ?_
          exact (by rw [if_neg c_24] at hj; exact hj)
        · refine lv_iconst (v := (1 : Int32)) hx hb d_Ref_floated_231 (by decide) ?_
          refine lv_goto (tgt := 236) hx hb d_Ref_floated_232 (by decide) ?_
          exact (by rw [if_pos c_24] at hj; exact hj)
      refine lv_lload_n hx hb d_Ref_floated_236 rfl (lv_at hl 2 rfl) ?_
      refine lv_lload hx hb d_Ref_floated_237 (lv_at hl 3 rfl) ?_
      refine rv_l (As := [.int (if a0 = (12 : Int32) then (1 : Int32) else (0 : Int32)), .long a1, .long a2]) (rest := []) hq hA hP hS (c_Ref_lesser l A ad D cB cJ o r hne hA cd la lo hi re wi fr bi mi am we f (if a0 = (12 : Int32) then (1 : Int32) else (0 : Int32)) a1 a2) kB_Ref_lesser wt_675 ⟨rfl, rfl, Nat.le_of_ble_eq_true rfl, Nat.le_of_ble_eq_true rfl⟩ rfl hl.1 rfl (Nat.le_of_ble_eq_true rfl) d_Ref_floated_239 ⟨Nat.zero_le _, Nat.zero_le _⟩ (fun H locs hP hS => ?_)
      exact qr_l hq hr hk hP hS ⟨congrArg (fun z => some (Value.long z)) (by unfold q_Ref_floated; exact (((if_neg c_1).trans ((if_neg c_2).trans ((if_neg c_3).trans ((if_pos c_4).trans ((if_pos c_5).trans ((if_neg c_6).trans ((if_neg c_8).trans ((if_neg c_10).trans ((if_neg c_12).trans ((if_neg c_14).trans ((if_neg c_16).trans ((if_neg c_18).trans ((if_neg c_20).trans ((if_neg c_22).trans rfl))))))))))))))).symm), _, _, _, _, _, _, _, _, _, _, rfl, hre, hf, hI⟩ d_Ref_floated_242
    · refine lv_aload_n hx hb d_Ref_floated_83 rfl (lv_at hl 0 rfl) ?_
      refine lv_lload hx hb d_Ref_floated_84 (lv_at hl 3 rfl) ?_
      refine rv_i (As := [.long a2]) (rest := []) hq hA hP hS (c_Ref_isNone l A ad D cB cJ o r hne hA cd la lo hi re wi fr bi mi am we f a2) kB_Ref_isNone wt_566 ⟨rfl, rfl, Nat.le_of_ble_eq_true rfl, Nat.le_of_ble_eq_true rfl⟩ rfl hl.1 rfl (Nat.le_of_ble_eq_true rfl) d_Ref_floated_86 ⟨Nat.zero_le _, Nat.zero_le _⟩ (fun H locs hP hS => ?_)
      refine lv_if_eq (tgt := 97) hx hb d_Ref_floated_89 (by decide) (fun c_25 => ?_) (fun c_25 => ?_)
      · refine lv_iload_n hx hb d_Ref_floated_97 rfl (lv_at hl 1 rfl) ?_
        by_cases c_26 : a0 = (2 : Int32)
        · refine lv_tableIn (tgt := 148) hx hb d_Ref_floated_98 (by rw [c_26]; decide) (by rw [c_26]; decide) (by rw [c_26]; rfl) (by decide) ?_
          refine lv_aload_n hx hb d_Ref_floated_148 rfl (lv_at hl 0 rfl) ?_
          refine lv_iconst (v := (3 : Int32)) hx hb d_Ref_floated_149 (by decide) ?_
          refine lv_lload_n hx hb d_Ref_floated_150 rfl (lv_at hl 2 rfl) ?_
          refine rq_ (As := [.int (3 : Int32), .long a1]) (rest := []) hq hA hP hS (c_Ref_whole l A ad D cB cJ o r hne hA cd la lo hi re wi fr bi mi am we f N hf hI hre (3 : Int32) a1 F B hfm) kB_Ref_whole wt_649 ⟨rfl, rfl, Nat.le_of_ble_eq_true rfl, Nat.le_of_ble_eq_true rfl⟩ rfl hl.1 rfl (Nat.le_of_ble_eq_true rfl) d_Ref_floated_151 ⟨Nat.zero_le _, Nat.zero_le _⟩ (fun v9 fs9 f_27 H locs hk9 hP hS => ?_)
          obtain ⟨rfl, lo_27, hi_27, re_27, wi_27, fr_27, bi_27, mi_27, am_27, we_27, N_27, rfl, hre_27, hf_27, hI_27⟩ := hk9
          exact qr_l hq hr hk hP hS ⟨congrArg (fun z => some (Value.long z)) (by unfold q_Ref_floated; exact (((if_neg c_1).trans ((if_neg c_2).trans ((if_neg c_3).trans ((if_pos c_4).trans ((if_neg c_5).trans ((if_pos c_25).trans ((if_pos c_26).trans rfl)))))))).symm), _, _, _, _, _, _, _, _, _, _, rfl, hre_27, hf_27, hI_27⟩ d_Ref_floated_154
        by_cases c_28 : a0 = (3 : Int32)
        · refine lv_tableIn (tgt := 155) hx hb d_Ref_floated_98 (by rw [c_28]; decide) (by rw [c_28]; decide) (by rw [c_28]; rfl) (by decide) ?_
          refine lv_aload_n hx hb d_Ref_floated_155 rfl (lv_at hl 0 rfl) ?_
          refine lv_iconst (v := (4 : Int32)) hx hb d_Ref_floated_156 (by decide) ?_
          refine lv_lload_n hx hb d_Ref_floated_157 rfl (lv_at hl 2 rfl) ?_
          refine rq_ (As := [.int (4 : Int32), .long a1]) (rest := []) hq hA hP hS (c_Ref_whole l A ad D cB cJ o r hne hA cd la lo hi re wi fr bi mi am we f N hf hI hre (4 : Int32) a1 F B hfm) kB_Ref_whole wt_649 ⟨rfl, rfl, Nat.le_of_ble_eq_true rfl, Nat.le_of_ble_eq_true rfl⟩ rfl hl.1 rfl (Nat.le_of_ble_eq_true rfl) d_Ref_floated_158 ⟨Nat.zero_le _, Nat.zero_le _⟩ (fun v9 fs9 f_29 H locs hk9 hP hS => ?_)
          obtain ⟨rfl, lo_29, hi_29, re_29, wi_29, fr_29, bi_29, mi_29, am_29, we_29, N_29, rfl, hre_29, hf_29, hI_29⟩ := hk9
          exact qr_l hq hr hk hP hS ⟨congrArg (fun z => some (Value.long z)) (by unfold q_Ref_floated; exact (((if_neg c_1).trans ((if_neg c_2).trans ((if_neg c_3).trans ((if_pos c_4).trans ((if_neg c_5).trans ((if_pos c_25).trans ((if_neg c_26).trans ((if_pos c_28).trans rfl))))))))).symm), _, _, _, _, _, _, _, _, _, _, rfl, hre_29, hf_29, hI_29⟩ d_Ref_floated_161
        by_cases c_30 : a0 = (4 : Int32)
        · refine lv_tableIn (tgt := 162) hx hb d_Ref_floated_98 (by rw [c_30]; decide) (by rw [c_30]; decide) (by rw [c_30]; rfl) (by decide) ?_
          refine lv_aload_n hx hb d_Ref_floated_162 rfl (lv_at hl 0 rfl) ?_
          refine lv_iconst (v := (5 : Int32)) hx hb d_Ref_floated_163 (by decide) ?_
          refine lv_lload_n hx hb d_Ref_floated_164 rfl (lv_at hl 2 rfl) ?_
          refine rq_ (As := [.int (5 : Int32), .long a1]) (rest := []) hq hA hP hS (c_Ref_whole l A ad D cB cJ o r hne hA cd la lo hi re wi fr bi mi am we f N hf hI hre (5 : Int32) a1 F B hfm) kB_Ref_whole wt_649 ⟨rfl, rfl, Nat.le_of_ble_eq_true rfl, Nat.le_of_ble_eq_true rfl⟩ rfl hl.1 rfl (Nat.le_of_ble_eq_true rfl) d_Ref_floated_165 ⟨Nat.zero_le _, Nat.zero_le _⟩ (fun v9 fs9 f_31 H locs hk9 hP hS => ?_)
          obtain ⟨rfl, lo_31, hi_31, re_31, wi_31, fr_31, bi_31, mi_31, am_31, we_31, N_31, rfl, hre_31, hf_31, hI_31⟩ := hk9
          exact qr_l hq hr hk hP hS ⟨congrArg (fun z => some (Value.long z)) (by unfold q_Ref_floated; exact (((if_neg c_1).trans ((if_neg c_2).trans ((if_neg c_3).trans ((if_pos c_4).trans ((if_neg c_5).trans ((if_pos c_25).trans ((if_neg c_26).trans ((if_neg c_28).trans ((if_pos c_30).trans rfl)))))))))).symm), _, _, _, _, _, _, _, _, _, _, rfl, hre_31, hf_31, hI_31⟩ d_Ref_floated_168
        by_cases c_32 : a0 = (5 : Int32)
        · refine lv_tableIn (tgt := 169) hx hb d_Ref_floated_98 (by rw [c_32]; decide) (by rw [c_32]; decide) (by rw [c_32]; rfl) (by decide) ?_
          refine lv_aload_n hx hb d_Ref_floated_169 rfl (lv_at hl 0 rfl) ?_
          refine lv_bipush (v := (6 : Int32)) hx hb d_Ref_floated_170 (by decide) ?_
          refine lv_lload_n hx hb d_Ref_floated_172 rfl (lv_at hl 2 rfl) ?_
          refine rq_ (As := [.int (6 : Int32), .long a1]) (rest := []) hq hA hP hS (c_Ref_whole l A ad D cB cJ o r hne hA cd la lo hi re wi fr bi mi am we f N hf hI hre (6 : Int32) a1 F B hfm) kB_Ref_whole wt_649 ⟨rfl, rfl, Nat.le_of_ble_eq_true rfl, Nat.le_of_ble_eq_true rfl⟩ rfl hl.1 rfl (Nat.le_of_ble_eq_true rfl) d_Ref_floated_173 ⟨Nat.zero_le _, Nat.zero_le _⟩ (fun v9 fs9 f_33 H locs hk9 hP hS => ?_)
          obtain ⟨rfl, lo_33, hi_33, re_33, wi_33, fr_33, bi_33, mi_33, am_33, we_33, N_33, rfl, hre_33, hf_33, hI_33⟩ := hk9
          exact qr_l hq hr hk hP hS ⟨congrArg (fun z => some (Value.long z)) (by unfold q_Ref_floated; exact (((if_neg c_1).trans ((if_neg c_2).trans ((if_neg c_3).trans ((if_pos c_4).trans ((if_neg c_5).trans ((if_pos c_25).trans ((if_neg c_26).trans ((if_neg c_28).trans ((if_neg c_30).trans ((if_pos c_32).trans rfl))))))))))).symm), _, _, _, _, _, _, _, _, _, _, rfl, hre_33, hf_33, hI_33⟩ d_Ref_floated_176
        by_cases c_34 : a0 = (6 : Int32)
        · refine lv_tableIn (tgt := 177) hx hb d_Ref_floated_98 (by rw [c_34]; decide) (by rw [c_34]; decide) (by rw [c_34]; rfl) (by decide) ?_
          refine lv_aload_n hx hb d_Ref_floated_177 rfl (lv_at hl 0 rfl) ?_
          refine lv_lload_n hx hb d_Ref_floated_178 rfl (lv_at hl 2 rfl) ?_
          refine rq_ (As := [.long a1]) (rest := []) hq hA hP hS (c_Ref_root l A ad D cB cJ o r hne hA cd la lo hi re wi fr bi mi am we f N hf hI hre a1 F B hfm) kB_Ref_root wt_653 ⟨rfl, rfl, Nat.le_of_ble_eq_true rfl, Nat.le_of_ble_eq_true rfl⟩ rfl hl.1 rfl (Nat.le_of_ble_eq_true rfl) d_Ref_floated_179 ⟨Nat.zero_le _, Nat.zero_le _⟩ (fun v9 fs9 f_35 H locs hk9 hP hS => ?_)
          obtain ⟨rfl, lo_35, hi_35, re_35, wi_35, fr_35, bi_35, mi_35, am_35, we_35, N_35, rfl, hre_35, hf_35, hI_35⟩ := hk9
          exact qr_l hq hr hk hP hS ⟨congrArg (fun z => some (Value.long z)) (by unfold q_Ref_floated; exact (((if_neg c_1).trans ((if_neg c_2).trans ((if_neg c_3).trans ((if_pos c_4).trans ((if_neg c_5).trans ((if_pos c_25).trans ((if_neg c_26).trans ((if_neg c_28).trans ((if_neg c_30).trans ((if_neg c_32).trans ((if_pos c_34).trans rfl)))))))))))).symm), _, _, _, _, _, _, _, _, _, _, rfl, hre_35, hf_35, hI_35⟩ d_Ref_floated_182
        by_cases c_36 : a0 = (7 : Int32)
        · refine lv_tableIn (tgt := 183) hx hb d_Ref_floated_98 (by rw [c_36]; decide) (by rw [c_36]; decide) (by rw [c_36]; rfl) (by decide) ?_
          refine lv_aload_n hx hb d_Ref_floated_183 rfl (lv_at hl 0 rfl) ?_
          refine lv_lload_n hx hb d_Ref_floated_184 rfl (lv_at hl 2 rfl) ?_
          refine lv_lload hx hb d_Ref_floated_185 (lv_at hl 3 rfl) ?_
          refine rq_ (As := [.long a1, .long a2]) (rest := []) hq hA hP hS (c_Ref_sum l A ad D cB cJ o r hne hA cd la lo hi re wi fr bi mi am we f N hf hI hre a1 a2 F B hfm) kB_Ref_sum wt_659 ⟨rfl, rfl, Nat.le_of_ble_eq_true rfl, Nat.le_of_ble_eq_true rfl⟩ rfl hl.1 rfl (Nat.le_of_ble_eq_true rfl) d_Ref_floated_187 ⟨Nat.zero_le _, Nat.zero_le _⟩ (fun v9 fs9 f_37 H locs hk9 hP hS => ?_)
          obtain ⟨rfl, lo_37, hi_37, re_37, wi_37, fr_37, bi_37, mi_37, am_37, we_37, N_37, rfl, hre_37, hf_37, hI_37⟩ := hk9
          exact qr_l hq hr hk hP hS ⟨congrArg (fun z => some (Value.long z)) (by unfold q_Ref_floated; exact (((if_neg c_1).trans ((if_neg c_2).trans ((if_neg c_3).trans ((if_pos c_4).trans ((if_neg c_5).trans ((if_pos c_25).trans ((if_neg c_26).trans ((if_neg c_28).trans ((if_neg c_30).trans ((if_neg c_32).trans ((if_neg c_34).trans ((if_pos c_36).trans rfl))))))))))))).symm), _, _, _, _, _, _, _, _, _, _, rfl, hre_37, hf_37, hI_37⟩ d_Ref_floated_190
        by_cases c_38 : a0 = (8 : Int32)
        · refine lv_tableIn (tgt := 191) hx hb d_Ref_floated_98 (by rw [c_38]; decide) (by rw [c_38]; decide) (by rw [c_38]; rfl) (by decide) ?_
          refine lv_aload_n hx hb d_Ref_floated_191 rfl (lv_at hl 0 rfl) ?_
          refine lv_lload_n hx hb d_Ref_floated_192 rfl (lv_at hl 2 rfl) ?_
          refine lv_lload hx hb d_Ref_floated_193 (lv_at hl 3 rfl) ?_
          refine lv_lconst (v := (1 : Int64)) hx hb d_Ref_floated_195 (by decide) ?_
          refine lv_aload_n hx hb d_Ref_floated_196 rfl (lv_at hl 0 rfl) ?_
          refine rg_ 6 hq hP (by decide) wt_490 rfl rfl d_Ref_floated_197 ?_
          refine lv_iconst (v := (1 : Int32)) hx hb d_Ref_floated_200 (by decide) ?_
          refine lv_isub hx hb d_Ref_floated_201 ?_
          refine lv_lshl (v := (shl_ (1 : Int64) (wi - (1 : Int32)))) hx hb d_Ref_floated_202 rfl ?_
          refine lv_lxor hx hb d_Ref_floated_203 ?_
          refine rq_ (As := [.long a1, .long (a2 ^^^ (shl_ (1 : Int64) (wi - (1 : Int32))))]) (rest := []) hq hA hP hS (c_Ref_sum l A ad D cB cJ o r hne hA cd la lo hi re wi fr bi mi am we f N hf hI hre a1 (a2 ^^^ (shl_ (1 : Int64) (wi - (1 : Int32)))) F B hfm) kB_Ref_sum wt_659 ⟨rfl, rfl, Nat.le_of_ble_eq_true rfl, Nat.le_of_ble_eq_true rfl⟩ rfl hl.1 rfl (Nat.le_of_ble_eq_true rfl) d_Ref_floated_204 ⟨Nat.zero_le _, Nat.zero_le _⟩ (fun v9 fs9 f_39 H locs hk9 hP hS => ?_)
          obtain ⟨rfl, lo_39, hi_39, re_39, wi_39, fr_39, bi_39, mi_39, am_39, we_39, N_39, rfl, hre_39, hf_39, hI_39⟩ := hk9
          exact qr_l hq hr hk hP hS ⟨congrArg (fun z => some (Value.long z)) (by unfold q_Ref_floated; exact (((if_neg c_1).trans ((if_neg c_2).trans ((if_neg c_3).trans ((if_pos c_4).trans ((if_neg c_5).trans ((if_pos c_25).trans ((if_neg c_26).trans ((if_neg c_28).trans ((if_neg c_30).trans ((if_neg c_32).trans ((if_neg c_34).trans ((if_neg c_36).trans ((if_pos c_38).trans rfl)))))))))))))).symm), _, _, _, _, _, _, _, _, _, _, rfl, hre_39, hf_39, hI_39⟩ d_Ref_floated_207
        by_cases c_40 : a0 = (9 : Int32)
        · refine lv_tableIn (tgt := 208) hx hb d_Ref_floated_98 (by rw [c_40]; decide) (by rw [c_40]; decide) (by rw [c_40]; rfl) (by decide) ?_
          refine lv_aload_n hx hb d_Ref_floated_208 rfl (lv_at hl 0 rfl) ?_
          refine lv_lload_n hx hb d_Ref_floated_209 rfl (lv_at hl 2 rfl) ?_
          refine lv_lload hx hb d_Ref_floated_210 (lv_at hl 3 rfl) ?_
          refine rq_ (As := [.long a1, .long a2]) (rest := []) hq hA hP hS (c_Ref_product l A ad D cB cJ o r hne hA cd la lo hi re wi fr bi mi am we f N hf hI hre a1 a2 F B hfm) kB_Ref_product wt_667 ⟨rfl, rfl, Nat.le_of_ble_eq_true rfl, Nat.le_of_ble_eq_true rfl⟩ rfl hl.1 rfl (Nat.le_of_ble_eq_true rfl) d_Ref_floated_212 ⟨Nat.zero_le _, Nat.zero_le _⟩ (fun v9 fs9 f_41 H locs hk9 hP hS => ?_)
          obtain ⟨rfl, lo_41, hi_41, re_41, wi_41, fr_41, bi_41, mi_41, am_41, we_41, N_41, rfl, hre_41, hf_41, hI_41⟩ := hk9
          exact qr_l hq hr hk hP hS ⟨congrArg (fun z => some (Value.long z)) (by unfold q_Ref_floated; exact (((if_neg c_1).trans ((if_neg c_2).trans ((if_neg c_3).trans ((if_pos c_4).trans ((if_neg c_5).trans ((if_pos c_25).trans ((if_neg c_26).trans ((if_neg c_28).trans ((if_neg c_30).trans ((if_neg c_32).trans ((if_neg c_34).trans ((if_neg c_36).trans ((if_neg c_38).trans ((if_pos c_40).trans rfl))))))))))))))).symm), _, _, _, _, _, _, _, _, _, _, rfl, hre_41, hf_41, hI_41⟩ d_Ref_floated_215
        by_cases c_42 : a0 = (10 : Int32)
        · refine lv_tableIn (tgt := 216) hx hb d_Ref_floated_98 (by rw [c_42]; decide) (by rw [c_42]; decide) (by rw [c_42]; rfl) (by decide) ?_
          refine lv_aload_n hx hb d_Ref_floated_216 rfl (lv_at hl 0 rfl) ?_
          refine lv_lload_n hx hb d_Ref_floated_217 rfl (lv_at hl 2 rfl) ?_
          refine lv_lload hx hb d_Ref_floated_218 (lv_at hl 3 rfl) ?_
          refine rq_ (As := [.long a1, .long a2]) (rest := []) hq hA hP hS (c_Ref_quotient l A ad D cB cJ o r hne hA cd la lo hi re wi fr bi mi am we f N hf hI hre a1 a2 F B hfm) kB_Ref_quotient wt_671 ⟨rfl, rfl, Nat.le_of_ble_eq_true rfl, Nat.le_of_ble_eq_true rfl⟩ rfl hl.1 rfl (Nat.le_of_ble_eq_true rfl) d_Ref_floated_220 ⟨Nat.zero_le _, Nat.zero_le _⟩ (fun v9 fs9 f_43 H locs hk9 hP hS => ?_)
          obtain ⟨rfl, lo_43, hi_43, re_43, wi_43, fr_43, bi_43, mi_43, am_43, we_43, N_43, rfl, hre_43, hf_43, hI_43⟩ := hk9
          exact qr_l hq hr hk hP hS ⟨congrArg (fun z => some (Value.long z)) (by unfold q_Ref_floated; exact (((if_neg c_1).trans ((if_neg c_2).trans ((if_neg c_3).trans ((if_pos c_4).trans ((if_neg c_5).trans ((if_pos c_25).trans ((if_neg c_26).trans ((if_neg c_28).trans ((if_neg c_30).trans ((if_neg c_32).trans ((if_neg c_34).trans ((if_neg c_36).trans ((if_neg c_38).trans ((if_neg c_40).trans ((if_pos c_42).trans rfl)))))))))))))))).symm), _, _, _, _, _, _, _, _, _, _, rfl, hre_43, hf_43, hI_43⟩ d_Ref_floated_223
        have hsw : a0.toInt < 2 ∨ 10 < a0.toInt := by
          have := lv_neT c_26 (a := 2) (by decide)
          have := lv_neT c_28 (a := 3) (by decide)
          have := lv_neT c_30 (a := 4) (by decide)
          have := lv_neT c_32 (a := 5) (by decide)
          have := lv_neT c_34 (a := 6) (by decide)
          have := lv_neT c_36 (a := 7) (by decide)
          have := lv_neT c_38 (a := 8) (by decide)
          have := lv_neT c_40 (a := 9) (by decide)
          have := lv_neT c_42 (a := 10) (by decide)
          omega
        refine lv_tableOut (tgt := 224) hx hb d_Ref_floated_98 hsw (by decide) ?_
        refine lv_aload_n hx hb d_Ref_floated_224 rfl (lv_at hl 0 rfl) ?_
        refine lv_iload_n hx hb d_Ref_floated_225 rfl (lv_at hl 1 rfl) ?_
        refine lv_bipush (v := (12 : Int32)) hx hb d_Ref_floated_226 (by decide) ?_
        refine jn_ (J := 236) (ls := ls) (v := .int (if a0 = (12 : Int32) then (1 : Int32) else (0 : Int32))) (rest := [.ref o]) (fun hj => ?_) ?_
        · refine lv_icmp_ne (tgt := 235) hx hb d_Ref_floated_228 (by decide) (fun c_44 => ?_) (fun c_44 => ?_)
          · refine lv_iconst (v := (0 : Int32)) hx hb d_Ref_floated_235 (by decide) ?_
            exact (by rw [if_neg c_44] at hj; exact hj)
          · refine lv_iconst (v := (1 : Int32)) hx hb d_Ref_floated_231 (by decide) ?_
            refine lv_goto (tgt := 236) hx hb d_Ref_floated_232 (by decide) ?_
            exact (by rw [if_pos c_44] at hj; exact hj)
        refine lv_lload_n hx hb d_Ref_floated_236 rfl (lv_at hl 2 rfl) ?_
        refine lv_lload hx hb d_Ref_floated_237 (lv_at hl 3 rfl) ?_
        refine rv_l (As := [.int (if a0 = (12 : Int32) then (1 : Int32) else (0 : Int32)), .long a1, .long a2]) (rest := []) hq hA hP hS (c_Ref_lesser l A ad D cB cJ o r hne hA cd la lo hi re wi fr bi mi am we f (if a0 = (12 : Int32) then (1 : Int32) else (0 : Int32)) a1 a2) kB_Ref_lesser wt_675 ⟨rfl, rfl, Nat.le_of_ble_eq_true rfl, Nat.le_of_ble_eq_true rfl⟩ rfl hl.1 rfl (Nat.le_of_ble_eq_true rfl) d_Ref_floated_239 ⟨Nat.zero_le _, Nat.zero_le _⟩ (fun H locs hP hS => ?_)
        exact qr_l hq hr hk hP hS ⟨congrArg (fun z => some (Value.long z)) (by unfold q_Ref_floated; exact (((if_neg c_1).trans ((if_neg c_2).trans ((if_neg c_3).trans ((if_pos c_4).trans ((if_neg c_5).trans ((if_pos c_25).trans ((if_neg c_26).trans ((if_neg c_28).trans ((if_neg c_30).trans ((if_neg c_32).trans ((if_neg c_34).trans ((if_neg c_36).trans ((if_neg c_38).trans ((if_neg c_40).trans ((if_neg c_42).trans rfl)))))))))))))))).symm), _, _, _, _, _, _, _, _, _, _, rfl, hre, hf, hI⟩ d_Ref_floated_242
      · refine lv_aload_n hx hb d_Ref_floated_92 rfl (lv_at hl 0 rfl) ?_
        refine rv_l (As := []) (rest := []) hq hA hP hS (c_Ref_noNumber l A ad D cB cJ o r hne hA cd la lo hi re wi fr bi mi am we f ) kB_Ref_noNumber wt_639 ⟨rfl, rfl, Nat.le_of_ble_eq_true rfl, Nat.le_of_ble_eq_true rfl⟩ rfl hl.1 rfl (Nat.le_of_ble_eq_true rfl) d_Ref_floated_93 ⟨Nat.zero_le _, Nat.zero_le _⟩ (fun H locs hP hS => ?_)
        exact qr_l hq hr hk hP hS ⟨congrArg (fun z => some (Value.long z)) (by unfold q_Ref_floated; exact (((if_neg c_1).trans ((if_neg c_2).trans ((if_neg c_3).trans ((if_pos c_4).trans ((if_neg c_5).trans ((if_neg c_25).trans rfl))))))).symm), _, _, _, _, _, _, _, _, _, _, rfl, hre, hf, hI⟩ d_Ref_floated_96
