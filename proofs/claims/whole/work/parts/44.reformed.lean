def q_Ref_reformed (F B F2 B2 : Nat) (wi : Int32) (fr : Int32) (bi : Int32) (a0 : Int64) (a1 : Int32) : Int64 :=
  if (q_Ref_isNone wi fr bi a0) = 0 then
    if (q_Ref_isInfinite wi fr bi a0) = 0 then
      if (q_Ref_isZero wi a0) = 0 then
        (q_Ref_signed (q_Ref_format_wi a1) (lN (rR_ F2 B2 (2 * (0 + un_ (q_Ref_split_am wi fr bi a0) * 2 ^ (wt_ (q_Ref_split_we wi fr bi a0))) + (if (0 : Int32) = 0 then 0 else 1)) (-2201))) (q_Ref_isMinus wi a0))
      else
        (q_Ref_signed (q_Ref_format_wi a1) (0 : Int64) (q_Ref_isMinus wi a0))
    else
      (q_Ref_infinite (q_Ref_format_wi a1) (q_Ref_format_fr a1) (q_Ref_format_bi a1) (q_Ref_isMinus wi a0))
  else
    (q_Ref_noNumber (q_Ref_format_wi a1))
theorem kB_Ref_reformed : RB y_Ref_reformed b_Ref_reformed 8 (some .long) 2 := ⟨wt_634, wt_633, wt_19, wt_36, by decide +kernel⟩
set_option maxHeartbeats 4000000 in
set_option maxRecDepth 100000 in
theorem c_Ref_reformed (l : Launch) (A : Nat → Prop) (ad : Nat → Nat) (D : va_G) (cB cJ : ClassId) (o r : Nat) (hne : o ≠ r) (hA : ∀ q, rA o r q → A q) (cd : Int32) (la : Int64) (lo : Int32) (hi : Int32) (re : Int32) (wi : Int32) (fr : Int32) (bi : Int32) (mi : Int32) (am : Int64) (we : Int32) (f : Nat → Int32) (N : Nat) (hf : RowIs f N) (hI : RI lo hi N) (hre : re = 0 ∨ re = 1) (a0 : Int64) (a1 : Int32) (F B : Nat) (hfm : fmR wi fr bi F B) (F2 B2 : Nat) (hfm2 : fmR (q_Ref_format_wi a1) (q_Ref_format_fr a1) (q_Ref_format_bi a1) F2 B2) : Met l y_Ref_reformed (Cond.code y_Ref_reformed b_Ref_reformed 8 (some .long) :: BT) ({ frames := 3, cells := 0, slots := 0, locals := 73 }) (PR A ad D cB cJ o r (rf_ cd la r lo hi re wi fr bi mi am we) f [.long a0, .int a1]) (QP D cB o r (fun v fs' f' => v = some (.long (q_Ref_reformed F B F2 B2 wi fr bi a0 a1)) ∧ SJ r cd la fs' f')) 0 0 (rA o r) := by
  refine pr_ (by decide) (Nat.le_of_ble_eq_true rfl) ?_
  intro p e s m below meth c hq hP hS hr hk ls hl
  have hx := hq.1
  have hb := hq.2.1
  have hts := hq.2.2.2.2.1
  have hl : lv_has ls 8 [(0, .ref o), (1, .long a0), (3, .int a1)] := hl
  refine lv_aload_n hx hb d_Ref_reformed_0 rfl (lv_at hl 0 rfl) ?_
  refine lv_lload_n hx hb d_Ref_reformed_1 rfl (lv_at hl 1 rfl) ?_
  refine rv_i (As := [.long a0]) (rest := []) hq hA hP hS (c_Ref_isNone l A ad D cB cJ o r hne hA cd la lo hi re wi fr bi mi am we f a0) kB_Ref_isNone wt_566 ⟨rfl, rfl, Nat.le_of_ble_eq_true rfl, Nat.le_of_ble_eq_true rfl⟩ rfl hl.1 rfl (Nat.le_of_ble_eq_true rfl) d_Ref_reformed_2 ⟨Nat.zero_le _, Nat.zero_le _⟩ (fun H locs hP hS => ?_)
  refine lv_istore (lv' := [(4, .int (q_Ref_isNone wi fr bi a0)), (0, .ref o), (1, .long a0), (3, .int a1)]) hx hb d_Ref_reformed_5 hl (by decide) rfl (fun ls hl => ?_)
  refine lv_aload_n hx hb d_Ref_reformed_7 rfl (lv_at hl 1 rfl) ?_
  refine lv_lload_n hx hb d_Ref_reformed_8 rfl (lv_at hl 2 rfl) ?_
  refine rv_i (As := [.long a0]) (rest := []) hq hA hP hS (c_Ref_isInfinite l A ad D cB cJ o r hne hA cd la lo hi re wi fr bi mi am we f a0) kB_Ref_isInfinite wt_583 ⟨rfl, rfl, Nat.le_of_ble_eq_true rfl, Nat.le_of_ble_eq_true rfl⟩ rfl hl.1 rfl (Nat.le_of_ble_eq_true rfl) d_Ref_reformed_9 ⟨Nat.zero_le _, Nat.zero_le _⟩ (fun H locs hP hS => ?_)
  refine lv_istore (lv' := [(5, .int (q_Ref_isInfinite wi fr bi a0)), (4, .int (q_Ref_isNone wi fr bi a0)), (0, .ref o), (1, .long a0), (3, .int a1)]) hx hb d_Ref_reformed_12 hl (by decide) rfl (fun ls hl => ?_)
  refine lv_aload_n hx hb d_Ref_reformed_14 rfl (lv_at hl 2 rfl) ?_
  refine lv_lload_n hx hb d_Ref_reformed_15 rfl (lv_at hl 3 rfl) ?_
  refine rv_i (As := [.long a0]) (rest := []) hq hA hP hS (c_Ref_isZero l A ad D cB cJ o r hne hA cd la lo hi re wi fr bi mi am we f a0) kB_Ref_isZero wt_635 ⟨rfl, rfl, Nat.le_of_ble_eq_true rfl, Nat.le_of_ble_eq_true rfl⟩ rfl hl.1 rfl (Nat.le_of_ble_eq_true rfl) d_Ref_reformed_16 ⟨Nat.zero_le _, Nat.zero_le _⟩ (fun H locs hP hS => ?_)
  refine lv_istore (lv' := [(6, .int (q_Ref_isZero wi a0)), (5, .int (q_Ref_isInfinite wi fr bi a0)), (4, .int (q_Ref_isNone wi fr bi a0)), (0, .ref o), (1, .long a0), (3, .int a1)]) hx hb d_Ref_reformed_19 hl (by decide) rfl (fun ls hl => ?_)
  refine lv_aload_n hx hb d_Ref_reformed_21 rfl (lv_at hl 3 rfl) ?_
  refine lv_lload_n hx hb d_Ref_reformed_22 rfl (lv_at hl 4 rfl) ?_
  refine rv_i (As := [.long a0]) (rest := []) hq hA hP hS (c_Ref_isMinus l A ad D cB cJ o r hne hA cd la lo hi re wi fr bi mi am we f a0) kB_Ref_isMinus wt_591 ⟨rfl, rfl, Nat.le_of_ble_eq_true rfl, Nat.le_of_ble_eq_true rfl⟩ rfl hl.1 rfl (Nat.le_of_ble_eq_true rfl) d_Ref_reformed_23 ⟨Nat.zero_le _, Nat.zero_le _⟩ (fun H locs hP hS => ?_)
  refine lv_istore (lv' := [(7, .int (q_Ref_isMinus wi a0)), (6, .int (q_Ref_isZero wi a0)), (5, .int (q_Ref_isInfinite wi fr bi a0)), (4, .int (q_Ref_isNone wi fr bi a0)), (0, .ref o), (1, .long a0), (3, .int a1)]) hx hb d_Ref_reformed_26 hl (by decide) rfl (fun ls hl => ?_)
  refine lv_iload hx hb d_Ref_reformed_28 (lv_at hl 3 rfl) ?_
  refine lv_if_ne (tgt := 48) hx hb d_Ref_reformed_30 (by decide) (fun c_1 => ?_) (fun c_1 => ?_)
  · refine lv_aload_n hx hb d_Ref_reformed_48 rfl (lv_at hl 4 rfl) ?_
    refine lv_iload_n hx hb d_Ref_reformed_49 rfl (lv_at hl 6 rfl) ?_
    refine rv_v (As := [.int a1]) (rest := []) hq hA hP hS (c_Ref_format l A ad D cB cJ o r hne hA cd la lo hi re wi fr bi mi am we f a1) kB_Ref_format wt_558 ⟨rfl, rfl, Nat.le_of_ble_eq_true rfl, Nat.le_of_ble_eq_true rfl⟩ rfl hl.1 rfl (Nat.le_of_ble_eq_true rfl) d_Ref_reformed_50 ⟨Nat.zero_le _, Nat.zero_le _⟩ (fun H locs hP hS => ?_)
    refine lv_iload hx hb d_Ref_reformed_53 (lv_at hl 3 rfl) ?_
    refine lv_if_eq (tgt := 63) hx hb d_Ref_reformed_55 (by decide) (fun c9 => absurd c9 c_1) (fun _ => ?_)
    refine lv_aload_n hx hb d_Ref_reformed_58 rfl (lv_at hl 4 rfl) ?_
    refine rv_l (As := []) (rest := []) hq hA hP hS (c_Ref_noNumber l A ad D cB cJ o r hne hA cd la lo hi re (q_Ref_format_wi a1) (q_Ref_format_fr a1) (q_Ref_format_bi a1) mi am we f ) kB_Ref_noNumber wt_639 ⟨rfl, rfl, Nat.le_of_ble_eq_true rfl, Nat.le_of_ble_eq_true rfl⟩ rfl hl.1 rfl (Nat.le_of_ble_eq_true rfl) d_Ref_reformed_59 ⟨Nat.zero_le _, Nat.zero_le _⟩ (fun H locs hP hS => ?_)
    exact qr_l hq hr hk hP hS ⟨congrArg (fun z => some (Value.long z)) (by unfold q_Ref_reformed; exact (((if_neg c_1).trans rfl)).symm), _, _, _, _, _, _, _, _, _, _, rfl, hre, hf, hI⟩ d_Ref_reformed_62
  · refine lv_iload hx hb d_Ref_reformed_33 (lv_at hl 2 rfl) ?_
    refine lv_if_ne (tgt := 48) hx hb d_Ref_reformed_35 (by decide) (fun c_2 => ?_) (fun c_2 => ?_)
    · refine lv_aload_n hx hb d_Ref_reformed_48 rfl (lv_at hl 4 rfl) ?_
      refine lv_iload_n hx hb d_Ref_reformed_49 rfl (lv_at hl 6 rfl) ?_
      refine rv_v (As := [.int a1]) (rest := []) hq hA hP hS (c_Ref_format l A ad D cB cJ o r hne hA cd la lo hi re wi fr bi mi am we f a1) kB_Ref_format wt_558 ⟨rfl, rfl, Nat.le_of_ble_eq_true rfl, Nat.le_of_ble_eq_true rfl⟩ rfl hl.1 rfl (Nat.le_of_ble_eq_true rfl) d_Ref_reformed_50 ⟨Nat.zero_le _, Nat.zero_le _⟩ (fun H locs hP hS => ?_)
      refine lv_iload hx hb d_Ref_reformed_53 (lv_at hl 3 rfl) ?_
      refine lv_if_eq (tgt := 63) hx hb d_Ref_reformed_55 (by decide) (fun _ => ?_) (fun c9 => absurd c_1 c9)
      refine lv_iload hx hb d_Ref_reformed_63 (lv_at hl 2 rfl) ?_
      refine lv_if_ne (tgt := 73) hx hb d_Ref_reformed_65 (by decide) (fun _ => ?_) (fun c9 => absurd c9 c_2)
      refine lv_iload hx hb d_Ref_reformed_73 (lv_at hl 2 rfl) ?_
      refine lv_if_eq (tgt := 87) hx hb d_Ref_reformed_75 (by decide) (fun c9 => absurd c9 c_2) (fun _ => ?_)
      refine lv_aload_n hx hb d_Ref_reformed_78 rfl (lv_at hl 4 rfl) ?_
      refine lv_iload hx hb d_Ref_reformed_79 (lv_at hl 0 rfl) ?_
      refine rv_l (As := [.int (q_Ref_isMinus wi a0)]) (rest := []) hq hA hP hS (c_Ref_infinite l A ad D cB cJ o r hne hA cd la lo hi re (q_Ref_format_wi a1) (q_Ref_format_fr a1) (q_Ref_format_bi a1) mi am we f (q_Ref_isMinus wi a0)) kB_Ref_infinite wt_574 ⟨rfl, rfl, Nat.le_of_ble_eq_true rfl, Nat.le_of_ble_eq_true rfl⟩ rfl hl.1 rfl (Nat.le_of_ble_eq_true rfl) d_Ref_reformed_81 ⟨Nat.zero_le _, Nat.zero_le _⟩ (fun H locs hP hS => ?_)
      refine lv_goto (tgt := 94) hx hb d_Ref_reformed_84 (by decide) ?_
      exact qr_l hq hr hk hP hS ⟨congrArg (fun z => some (Value.long z)) (by unfold q_Ref_reformed; exact (((if_pos c_1).trans ((if_neg c_2).trans rfl))).symm), _, _, _, _, _, _, _, _, _, _, rfl, hre, hf, hI⟩ d_Ref_reformed_94
    · refine lv_iload hx hb d_Ref_reformed_38 (lv_at hl 1 rfl) ?_
      refine lv_if_ne (tgt := 48) hx hb d_Ref_reformed_40 (by decide) (fun c_3 => ?_) (fun c_3 => ?_)
      · refine lv_aload_n hx hb d_Ref_reformed_48 rfl (lv_at hl 4 rfl) ?_
        refine lv_iload_n hx hb d_Ref_reformed_49 rfl (lv_at hl 6 rfl) ?_
        refine rv_v (As := [.int a1]) (rest := []) hq hA hP hS (c_Ref_format l A ad D cB cJ o r hne hA cd la lo hi re wi fr bi mi am we f a1) kB_Ref_format wt_558 ⟨rfl, rfl, Nat.le_of_ble_eq_true rfl, Nat.le_of_ble_eq_true rfl⟩ rfl hl.1 rfl (Nat.le_of_ble_eq_true rfl) d_Ref_reformed_50 ⟨Nat.zero_le _, Nat.zero_le _⟩ (fun H locs hP hS => ?_)
        refine lv_iload hx hb d_Ref_reformed_53 (lv_at hl 3 rfl) ?_
        refine lv_if_eq (tgt := 63) hx hb d_Ref_reformed_55 (by decide) (fun _ => ?_) (fun c9 => absurd c_1 c9)
        refine lv_iload hx hb d_Ref_reformed_63 (lv_at hl 2 rfl) ?_
        refine lv_if_ne (tgt := 73) hx hb d_Ref_reformed_65 (by decide) (fun c9 => absurd c_2 c9) (fun _ => ?_)
        refine lv_iload hx hb d_Ref_reformed_68 (lv_at hl 1 rfl) ?_
        refine lv_if_eq (tgt := 95) hx hb d_Ref_reformed_70 (by decide) (fun c9 => absurd c9 c_3) (fun _ => ?_)
        refine lv_iload hx hb d_Ref_reformed_73 (lv_at hl 2 rfl) ?_
        refine lv_if_eq (tgt := 87) hx hb d_Ref_reformed_75 (by decide) (fun _ => ?_) (fun c9 => absurd c_2 c9)
        refine lv_aload_n hx hb d_Ref_reformed_87 rfl (lv_at hl 4 rfl) ?_
        refine lv_lconst (v := (0 : Int64)) hx hb d_Ref_reformed_88 (by decide) ?_
        refine lv_iload hx hb d_Ref_reformed_89 (lv_at hl 0 rfl) ?_
        refine rv_l (As := [.long (0 : Int64), .int (q_Ref_isMinus wi a0)]) (rest := []) hq hA hP hS (c_Ref_signed l A ad D cB cJ o r hne hA cd la lo hi re (q_Ref_format_wi a1) (q_Ref_format_fr a1) (q_Ref_format_bi a1) mi am we f (0 : Int64) (q_Ref_isMinus wi a0)) kB_Ref_signed wt_579 ⟨rfl, rfl, Nat.le_of_ble_eq_true rfl, Nat.le_of_ble_eq_true rfl⟩ rfl hl.1 rfl (Nat.le_of_ble_eq_true rfl) d_Ref_reformed_91 ⟨Nat.zero_le _, Nat.zero_le _⟩ (fun H locs hP hS => ?_)
        exact qr_l hq hr hk hP hS ⟨congrArg (fun z => some (Value.long z)) (by unfold q_Ref_reformed; exact (((if_pos c_1).trans ((if_pos c_2).trans ((if_neg c_3).trans rfl)))).symm), _, _, _, _, _, _, _, _, _, _, rfl, hre, hf, hI⟩ d_Ref_reformed_94
      · refine lv_aload_n hx hb d_Ref_reformed_43 rfl (lv_at hl 4 rfl) ?_
        refine lv_lload_n hx hb d_Ref_reformed_44 rfl (lv_at hl 5 rfl) ?_
        refine rv_v (As := [.long a0]) (rest := []) hq hA hP hS (c_Ref_split l A ad D cB cJ o r hne hA cd la lo hi re wi fr bi mi am we f a0) kB_Ref_split wt_587 ⟨rfl, rfl, Nat.le_of_ble_eq_true rfl, Nat.le_of_ble_eq_true rfl⟩ rfl hl.1 rfl (Nat.le_of_ble_eq_true rfl) d_Ref_reformed_45 ⟨Nat.zero_le _, Nat.zero_le _⟩ (fun H locs hP hS => ?_)
        refine lv_aload_n hx hb d_Ref_reformed_48 rfl (lv_at hl 4 rfl) ?_
        refine lv_iload_n hx hb d_Ref_reformed_49 rfl (lv_at hl 6 rfl) ?_
        refine rv_v (As := [.int a1]) (rest := []) hq hA hP hS (c_Ref_format l A ad D cB cJ o r hne hA cd la lo hi re wi fr bi (q_Ref_split_mi wi fr bi a0) (q_Ref_split_am wi fr bi a0) (q_Ref_split_we wi fr bi a0) f a1) kB_Ref_format wt_558 ⟨rfl, rfl, Nat.le_of_ble_eq_true rfl, Nat.le_of_ble_eq_true rfl⟩ rfl hl.1 rfl (Nat.le_of_ble_eq_true rfl) d_Ref_reformed_50 ⟨Nat.zero_le _, Nat.zero_le _⟩ (fun H locs hP hS => ?_)
        refine lv_iload hx hb d_Ref_reformed_53 (lv_at hl 3 rfl) ?_
        refine lv_if_eq (tgt := 63) hx hb d_Ref_reformed_55 (by decide) (fun _ => ?_) (fun c9 => absurd c_1 c9)
        refine lv_iload hx hb d_Ref_reformed_63 (lv_at hl 2 rfl) ?_
        refine lv_if_ne (tgt := 73) hx hb d_Ref_reformed_65 (by decide) (fun c9 => absurd c_2 c9) (fun _ => ?_)
        refine lv_iload hx hb d_Ref_reformed_68 (lv_at hl 1 rfl) ?_
        refine lv_if_eq (tgt := 95) hx hb d_Ref_reformed_70 (by decide) (fun _ => ?_) (fun c9 => absurd c_3 c9)
        refine lv_aload_n hx hb d_Ref_reformed_95 rfl (lv_at hl 4 rfl) ?_
        refine rq_ (As := []) (rest := []) hq hA hP hS (c_Ref_clear l A ad D cB cJ o r hne hA cd la lo hi re (q_Ref_format_wi a1) (q_Ref_format_fr a1) (q_Ref_format_bi a1) (q_Ref_split_mi wi fr bi a0) (q_Ref_split_am wi fr bi a0) (q_Ref_split_we wi fr bi a0) f N hf hI) kB_Ref_clear wt_607 ⟨rfl, rfl, Nat.le_of_ble_eq_true rfl, Nat.le_of_ble_eq_true rfl⟩ rfl hl.1 rfl (Nat.le_of_ble_eq_true rfl) d_Ref_reformed_96 ⟨Nat.zero_le _, Nat.zero_le _⟩ (fun v9 fs9 f_4 H locs hk9 hP hS => ?_)
        obtain ⟨rfl, rfl, hf_4⟩ := hk9
        refine lv_aload_n hx hb d_Ref_reformed_99 rfl (lv_at hl 4 rfl) ?_
        refine lv_aload_n hx hb d_Ref_reformed_100 rfl (lv_at hl 4 rfl) ?_
        refine rg_ 10 hq hP (by decide) wt_494 rfl rfl d_Ref_reformed_101 ?_
        refine lv_aload_n hx hb d_Ref_reformed_104 rfl (lv_at hl 4 rfl) ?_
        refine rg_ 11 hq hP (by decide) wt_495 rfl rfl d_Ref_reformed_105 ?_
        refine rq_ (As := [.long (q_Ref_split_am wi fr bi a0), .int (q_Ref_split_we wi fr bi a0)]) (rest := []) hq hA hP hS (c_Ref_addX l A ad D cB cJ o r hne hA cd la (nI 4400) (0 : Int32) (0 : Int32) (q_Ref_format_wi a1) (q_Ref_format_fr a1) (q_Ref_format_bi a1) (q_Ref_split_mi wi fr bi a0) (q_Ref_split_am wi fr bi a0) (q_Ref_split_we wi fr bi a0) f_4 0 hf_4 ri_0 (q_Ref_split_am wi fr bi a0) (q_Ref_split_we wi fr bi a0) (wt_ (q_Ref_split_we wi fr bi a0)) (sp_P hfm _).1 (by have := (sp_P hfm a0).2; omega) (fits_row (by have := (sp_P hfm a0).2; omega))) kB_Ref_add wt_611 ⟨rfl, rfl, Nat.le_of_ble_eq_true rfl, Nat.le_of_ble_eq_true rfl⟩ rfl hl.1 rfl (Nat.le_of_ble_eq_true rfl) d_Ref_reformed_108 ⟨Nat.zero_le _, Nat.zero_le _⟩ (fun v9 fs9 f_5 H locs hk9 hP hS => ?_)
        obtain ⟨rfl, lo_5, hi_5, rfl, hf_5, hI_5⟩ := hk9
        refine lv_aload_n hx hb d_Ref_reformed_111 rfl (lv_at hl 4 rfl) ?_
        refine lv_iload hx hb d_Ref_reformed_112 (lv_at hl 0 rfl) ?_
        refine rv_l (As := [.int (q_Ref_isMinus wi a0)]) (rest := []) hq hA hP hS (c_Ref_rounded l A ad D cB cJ o r hne hA cd la lo_5 hi_5 (0 : Int32) (q_Ref_format_wi a1) (q_Ref_format_fr a1) (q_Ref_format_bi a1) (q_Ref_split_mi wi fr bi a0) (q_Ref_split_am wi fr bi a0) (q_Ref_split_we wi fr bi a0) f_5 (q_Ref_isMinus wi a0) (0 + un_ (q_Ref_split_am wi fr bi a0) * 2 ^ (wt_ (q_Ref_split_we wi fr bi a0))) F2 B2 hf_5 hI_5 (rf_pos hfm c_3) (Or.inl rfl) (fmR_f hfm2) (fmR_b hfm2) (fmR_FB hfm2)) kB_Ref_rounded wt_619 ⟨rfl, rfl, Nat.le_of_ble_eq_true rfl, Nat.le_of_ble_eq_true rfl⟩ rfl hl.1 rfl (Nat.le_of_ble_eq_true rfl) d_Ref_reformed_114 ⟨Nat.zero_le _, Nat.zero_le _⟩ (fun H locs hP hS => ?_)
        exact qr_l hq hr hk hP hS ⟨congrArg (fun z => some (Value.long z)) (by unfold q_Ref_reformed; exact (((if_pos c_1).trans ((if_pos c_2).trans ((if_pos c_3).trans rfl)))).symm), _, _, _, _, _, _, _, _, _, _, rfl, (Or.inl rfl), hf_5, hI_5⟩ d_Ref_reformed_117
