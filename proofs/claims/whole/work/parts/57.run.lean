def q_Ref_run (la : Int64) (a0 : Int32) (a1 : Int64) (a2 : Int64) : Int64 :=
  if (if (q_Ref_isIn a0 (69 : Int32) (191 : Int32)) = 0 then (1 : Int32) else (0 : Int32)) ≤ 0 then
    if (q_Ref_answer_cd (if (q_Ref_isIn a0 (69 : Int32) (191 : Int32)) = 0 then (1 : Int32) else (0 : Int32)) a0 (if ((q_Ref_first a0) - (q_Ref_first a0) / (2 : Int32) * (2 : Int32)) = 0 then (a1 &&& (4294967295 : Int64)) else a1) (if ((q_Ref_first a0) - (q_Ref_first a0) / (2 : Int32) * (2 : Int32)) = 0 then (a2 &&& (4294967295 : Int64)) else a2)) ≤ 0 then
      (if ((q_Ref_result a0) - (q_Ref_result a0) / (2 : Int32) * (2 : Int32)) = 0 then ((q_Ref_answer (if (q_Ref_isIn a0 (69 : Int32) (191 : Int32)) = 0 then (1 : Int32) else (0 : Int32)) a0 (if ((q_Ref_first a0) - (q_Ref_first a0) / (2 : Int32) * (2 : Int32)) = 0 then (a1 &&& (4294967295 : Int64)) else a1) (if ((q_Ref_first a0) - (q_Ref_first a0) / (2 : Int32) * (2 : Int32)) = 0 then (a2 &&& (4294967295 : Int64)) else a2)) &&& (4294967295 : Int64)) else (q_Ref_answer (if (q_Ref_isIn a0 (69 : Int32) (191 : Int32)) = 0 then (1 : Int32) else (0 : Int32)) a0 (if ((q_Ref_first a0) - (q_Ref_first a0) / (2 : Int32) * (2 : Int32)) = 0 then (a1 &&& (4294967295 : Int64)) else a1) (if ((q_Ref_first a0) - (q_Ref_first a0) / (2 : Int32) * (2 : Int32)) = 0 then (a2 &&& (4294967295 : Int64)) else a2)))
    else
      (0 : Int64)
  else
    (0 : Int64)
def q_Ref_run_cd (la : Int64) (a0 : Int32) (a1 : Int64) (a2 : Int64) : Int32 :=
  if (if (q_Ref_isIn a0 (69 : Int32) (191 : Int32)) = 0 then (1 : Int32) else (0 : Int32)) ≤ 0 then
    if (q_Ref_answer_cd (if (q_Ref_isIn a0 (69 : Int32) (191 : Int32)) = 0 then (1 : Int32) else (0 : Int32)) a0 (if ((q_Ref_first a0) - (q_Ref_first a0) / (2 : Int32) * (2 : Int32)) = 0 then (a1 &&& (4294967295 : Int64)) else a1) (if ((q_Ref_first a0) - (q_Ref_first a0) / (2 : Int32) * (2 : Int32)) = 0 then (a2 &&& (4294967295 : Int64)) else a2)) ≤ 0 then
      (q_Ref_answer_cd (if (q_Ref_isIn a0 (69 : Int32) (191 : Int32)) = 0 then (1 : Int32) else (0 : Int32)) a0 (if ((q_Ref_first a0) - (q_Ref_first a0) / (2 : Int32) * (2 : Int32)) = 0 then (a1 &&& (4294967295 : Int64)) else a1) (if ((q_Ref_first a0) - (q_Ref_first a0) / (2 : Int32) * (2 : Int32)) = 0 then (a2 &&& (4294967295 : Int64)) else a2))
    else
      (q_Ref_answer_cd (if (q_Ref_isIn a0 (69 : Int32) (191 : Int32)) = 0 then (1 : Int32) else (0 : Int32)) a0 (if ((q_Ref_first a0) - (q_Ref_first a0) / (2 : Int32) * (2 : Int32)) = 0 then (a1 &&& (4294967295 : Int64)) else a1) (if ((q_Ref_first a0) - (q_Ref_first a0) / (2 : Int32) * (2 : Int32)) = 0 then (a2 &&& (4294967295 : Int64)) else a2))
  else
    (if (q_Ref_isIn a0 (69 : Int32) (191 : Int32)) = 0 then (1 : Int32) else (0 : Int32))
def q_Ref_run_la (la : Int64) (a0 : Int32) (a1 : Int64) (a2 : Int64) : Int64 :=
  if (if (q_Ref_isIn a0 (69 : Int32) (191 : Int32)) = 0 then (1 : Int32) else (0 : Int32)) ≤ 0 then
    if (q_Ref_answer_cd (if (q_Ref_isIn a0 (69 : Int32) (191 : Int32)) = 0 then (1 : Int32) else (0 : Int32)) a0 (if ((q_Ref_first a0) - (q_Ref_first a0) / (2 : Int32) * (2 : Int32)) = 0 then (a1 &&& (4294967295 : Int64)) else a1) (if ((q_Ref_first a0) - (q_Ref_first a0) / (2 : Int32) * (2 : Int32)) = 0 then (a2 &&& (4294967295 : Int64)) else a2)) ≤ 0 then
      (if ((q_Ref_result a0) - (q_Ref_result a0) / (2 : Int32) * (2 : Int32)) = 0 then ((q_Ref_answer (if (q_Ref_isIn a0 (69 : Int32) (191 : Int32)) = 0 then (1 : Int32) else (0 : Int32)) a0 (if ((q_Ref_first a0) - (q_Ref_first a0) / (2 : Int32) * (2 : Int32)) = 0 then (a1 &&& (4294967295 : Int64)) else a1) (if ((q_Ref_first a0) - (q_Ref_first a0) / (2 : Int32) * (2 : Int32)) = 0 then (a2 &&& (4294967295 : Int64)) else a2)) &&& (4294967295 : Int64)) else (q_Ref_answer (if (q_Ref_isIn a0 (69 : Int32) (191 : Int32)) = 0 then (1 : Int32) else (0 : Int32)) a0 (if ((q_Ref_first a0) - (q_Ref_first a0) / (2 : Int32) * (2 : Int32)) = 0 then (a1 &&& (4294967295 : Int64)) else a1) (if ((q_Ref_first a0) - (q_Ref_first a0) / (2 : Int32) * (2 : Int32)) = 0 then (a2 &&& (4294967295 : Int64)) else a2)))
    else
      la
  else
    la
theorem kB_Ref_run : RB y_Ref_run b_Ref_run 12 (some .long) 3 := ⟨wt_548, wt_546, wt_547, wt_36, by decide +kernel⟩
set_option maxHeartbeats 4000000 in
set_option maxRecDepth 100000 in
theorem c_Ref_run (l : Launch) (A : Nat → Prop) (ad : Nat → Nat) (D : va_G) (cB cJ : ClassId) (o r : Nat) (hne : o ≠ r) (hA : ∀ q, rA o r q → A q) (cd : Int32) (la : Int64) (lo : Int32) (hi : Int32) (re : Int32) (wi : Int32) (fr : Int32) (bi : Int32) (mi : Int32) (am : Int64) (we : Int32) (f : Nat → Int32) (N : Nat) (hf : RowIs f N) (hI : RI lo hi N) (hre : re = 0 ∨ re = 1) (a0 : Int32) (a1 : Int64) (a2 : Int64) : Met l y_Ref_run (Cond.code y_Ref_run b_Ref_run 12 (some .long) :: BT) ({ frames := 6, cells := 0, slots := 0, locals := 154 }) (PR A ad D cB cJ o r (rf_ cd la r lo hi re wi fr bi mi am we) f [.int a0, .long a1, .long a2]) (QP D cB o r (fun v fs' f' => v = some (.long (q_Ref_run la a0 a1 a2)) ∧ SJ r (q_Ref_run_cd la a0 a1 a2) (q_Ref_run_la la a0 a1 a2) fs' f')) 0 0 (rA o r) := by
  refine pr_ (by decide) (Nat.le_of_ble_eq_true rfl) ?_
  intro p e s m below meth c hq hP hS hr hk ls hl
  have hx := hq.1
  have hb := hq.2.1
  have hts := hq.2.2.2.2.1
  have hl : lv_has ls 12 [(0, .ref o), (1, .int a0), (2, .long a1), (4, .long a2)] := hl
  refine lv_aload_n hx hb d_Ref_run_0 rfl (lv_at hl 0 rfl) ?_
  refine lv_iload_n hx hb d_Ref_run_1 rfl (lv_at hl 1 rfl) ?_
  refine lv_bipush (v := (69 : Int32)) hx hb d_Ref_run_2 (by decide) ?_
  refine lv_sipush (v := (191 : Int32)) hx hb d_Ref_run_4 (by decide) ?_
  refine hi_ (As := [.int a0, .int (69 : Int32), .int (191 : Int32)]) (rest := [.ref o]) hq hA hS (c_Ref_isIn l A ad a0 (69 : Int32) (191 : Int32)) kB_Ref_isIn wt_533 ⟨rfl, rfl, Nat.le_of_ble_eq_true rfl, Nat.le_of_ble_eq_true rfl⟩ rfl hl.1 rfl (Nat.le_of_ble_eq_true rfl) d_Ref_run_7 ⟨Nat.zero_le _, Nat.zero_le _⟩ ?_
  refine jn_ (J := 18) (ls := ls) (v := .int (if (q_Ref_isIn a0 (69 : Int32) (191 : Int32)) = 0 then (1 : Int32) else (0 : Int32))) (rest := [.ref o]) (fun hj => ?_) ?_
  · refine lv_if_eq (tgt := 17) hx hb d_Ref_run_10 (by decide) (fun c_1 => ?_) (fun c_1 => ?_)
    · refine lv_iconst (v := (1 : Int32)) hx hb d_Ref_run_17 (by decide) ?_
      exact (by rw [if_pos c_1] at hj; exact hj)
    · refine lv_iconst (v := (0 : Int32)) hx hb d_Ref_run_13 (by decide) ?_
      refine lv_goto (tgt := 18) hx hb d_Ref_run_14 (by decide) ?_
      exact (by rw [if_neg c_1] at hj; exact hj)
  refine rp_ 0 (ty := tR 0) hq hne hP hS (by decide) wt_484 rfl rfl rfl rfl rfl (Nat.le_of_ble_eq_true rfl) d_Ref_run_18 (fun H locs hP hS => ?_)
  have hP : va_P D clR (rw_ o r cB (rf_ (if (q_Ref_isIn a0 (69 : Int32) (191 : Int32)) = 0 then (1 : Int32) else (0 : Int32)) la r lo hi re wi fr bi mi am we) f) H := hP
  refine lv_aload_n hx hb d_Ref_run_21 rfl (lv_at hl 0 rfl) ?_
  refine rg_ 0 hq hP (by decide) wt_484 rfl rfl d_Ref_run_22 ?_
  refine lv_if_le (tgt := 30) hx hb d_Ref_run_25 (by decide) (fun c_2 => ?_) (fun c_2 => ?_)
  · refine lv_iload_n hx hb d_Ref_run_30 rfl (lv_at hl 1 rfl) ?_
    refine hi_ (As := [.int a0]) (rest := []) hq hA hS (c_Ref_first l A ad a0) kB_Ref_first wt_539 ⟨rfl, rfl, Nat.le_of_ble_eq_true rfl, Nat.le_of_ble_eq_true rfl⟩ rfl hl.1 rfl (Nat.le_of_ble_eq_true rfl) d_Ref_run_31 ⟨Nat.zero_le _, Nat.zero_le _⟩ ?_
    refine lv_iconst (v := (2 : Int32)) hx hb d_Ref_run_34 (by decide) ?_
    refine lv_irem hx hb d_Ref_run_35 (by decide) ?_
    refine jn_ (J := 48) (ls := ls) (v := .long (if ((q_Ref_first a0) - (q_Ref_first a0) / (2 : Int32) * (2 : Int32)) = 0 then (a1 &&& (4294967295 : Int64)) else a1)) (rest := []) (fun hj => ?_) ?_
    · refine lv_if_ne (tgt := 47) hx hb d_Ref_run_36 (by decide) (fun c_3 => ?_) (fun c_3 => ?_)
      · refine lv_lload_n hx hb d_Ref_run_47 rfl (lv_at hl 2 rfl) ?_
        exact (by rw [if_neg c_3] at hj; exact hj)
      · refine lv_lload_n hx hb d_Ref_run_39 rfl (lv_at hl 2 rfl) ?_
        refine lv_ldc2 (v := (4294967295 : Int64)) hx hb hq.2.2.2.1 (hts _ wt_549) d_Ref_run_40 ?_
        refine lv_land hx hb d_Ref_run_43 ?_
        refine lv_goto (tgt := 48) hx hb d_Ref_run_44 (by decide) ?_
        exact (by rw [if_pos c_3] at hj; exact hj)
    refine lv_lstore (lv' := [(6, .long (if ((q_Ref_first a0) - (q_Ref_first a0) / (2 : Int32) * (2 : Int32)) = 0 then (a1 &&& (4294967295 : Int64)) else a1)), (0, .ref o), (1, .int a0), (2, .long a1), (4, .long a2)]) hx hb d_Ref_run_48 hl (by decide) rfl (fun ls hl => ?_)
    refine lv_iload_n hx hb d_Ref_run_50 rfl (lv_at hl 2 rfl) ?_
    refine hi_ (As := [.int a0]) (rest := []) hq hA hS (c_Ref_first l A ad a0) kB_Ref_first wt_539 ⟨rfl, rfl, Nat.le_of_ble_eq_true rfl, Nat.le_of_ble_eq_true rfl⟩ rfl hl.1 rfl (Nat.le_of_ble_eq_true rfl) d_Ref_run_51 ⟨Nat.zero_le _, Nat.zero_le _⟩ ?_
    refine lv_iconst (v := (2 : Int32)) hx hb d_Ref_run_54 (by decide) ?_
    refine lv_irem hx hb d_Ref_run_55 (by decide) ?_
    refine jn_ (J := 70) (ls := ls) (v := .long (if ((q_Ref_first a0) - (q_Ref_first a0) / (2 : Int32) * (2 : Int32)) = 0 then (a2 &&& (4294967295 : Int64)) else a2)) (rest := []) (fun hj => ?_) ?_
    · refine lv_if_ne (tgt := 68) hx hb d_Ref_run_56 (by decide) (fun c_4 => ?_) (fun c_4 => ?_)
      · refine lv_lload hx hb d_Ref_run_68 (lv_at hl 4 rfl) ?_
        exact (by rw [if_neg c_4] at hj; exact hj)
      · refine lv_lload hx hb d_Ref_run_59 (lv_at hl 4 rfl) ?_
        refine lv_ldc2 (v := (4294967295 : Int64)) hx hb hq.2.2.2.1 (hts _ wt_549) d_Ref_run_61 ?_
        refine lv_land hx hb d_Ref_run_64 ?_
        refine lv_goto (tgt := 70) hx hb d_Ref_run_65 (by decide) ?_
        exact (by rw [if_pos c_4] at hj; exact hj)
    refine lv_lstore (lv' := [(8, .long (if ((q_Ref_first a0) - (q_Ref_first a0) / (2 : Int32) * (2 : Int32)) = 0 then (a2 &&& (4294967295 : Int64)) else a2)), (6, .long (if ((q_Ref_first a0) - (q_Ref_first a0) / (2 : Int32) * (2 : Int32)) = 0 then (a1 &&& (4294967295 : Int64)) else a1)), (0, .ref o), (1, .int a0), (2, .long a1), (4, .long a2)]) hx hb d_Ref_run_70 hl (by decide) rfl (fun ls hl => ?_)
    refine lv_aload_n hx hb d_Ref_run_72 rfl (lv_at hl 2 rfl) ?_
    refine lv_iload_n hx hb d_Ref_run_73 rfl (lv_at hl 3 rfl) ?_
    refine lv_lload hx hb d_Ref_run_74 (lv_at hl 1 rfl) ?_
    refine lv_lload hx hb d_Ref_run_76 (lv_at hl 0 rfl) ?_
    refine rq_ (As := [.int a0, .long (if ((q_Ref_first a0) - (q_Ref_first a0) / (2 : Int32) * (2 : Int32)) = 0 then (a1 &&& (4294967295 : Int64)) else a1), .long (if ((q_Ref_first a0) - (q_Ref_first a0) / (2 : Int32) * (2 : Int32)) = 0 then (a2 &&& (4294967295 : Int64)) else a2)]) (rest := []) hq hA hP hS (c_Ref_answer l A ad D cB cJ o r hne hA (if (q_Ref_isIn a0 (69 : Int32) (191 : Int32)) = 0 then (1 : Int32) else (0 : Int32)) la lo hi re wi fr bi mi am we f N hf hI hre a0 (if ((q_Ref_first a0) - (q_Ref_first a0) / (2 : Int32) * (2 : Int32)) = 0 then (a1 &&& (4294967295 : Int64)) else a1) (if ((q_Ref_first a0) - (q_Ref_first a0) / (2 : Int32) * (2 : Int32)) = 0 then (a2 &&& (4294967295 : Int64)) else a2)) kB_Ref_answer wt_550 ⟨rfl, rfl, Nat.le_of_ble_eq_true rfl, Nat.le_of_ble_eq_true rfl⟩ rfl hl.1 rfl (Nat.le_of_ble_eq_true rfl) d_Ref_run_78 ⟨Nat.zero_le _, Nat.zero_le _⟩ (fun v9 fs9 f_5 H locs hk9 hP hS => ?_)
    obtain ⟨rfl, lo_5, hi_5, re_5, wi_5, fr_5, bi_5, mi_5, am_5, we_5, N_5, rfl, hre_5, hf_5, hI_5⟩ := hk9
    refine lv_lstore (lv' := [(10, .long (q_Ref_answer (if (q_Ref_isIn a0 (69 : Int32) (191 : Int32)) = 0 then (1 : Int32) else (0 : Int32)) a0 (if ((q_Ref_first a0) - (q_Ref_first a0) / (2 : Int32) * (2 : Int32)) = 0 then (a1 &&& (4294967295 : Int64)) else a1) (if ((q_Ref_first a0) - (q_Ref_first a0) / (2 : Int32) * (2 : Int32)) = 0 then (a2 &&& (4294967295 : Int64)) else a2))), (8, .long (if ((q_Ref_first a0) - (q_Ref_first a0) / (2 : Int32) * (2 : Int32)) = 0 then (a2 &&& (4294967295 : Int64)) else a2)), (6, .long (if ((q_Ref_first a0) - (q_Ref_first a0) / (2 : Int32) * (2 : Int32)) = 0 then (a1 &&& (4294967295 : Int64)) else a1)), (0, .ref o), (1, .int a0), (2, .long a1), (4, .long a2)]) hx hb d_Ref_run_81 hl (by decide) rfl (fun ls hl => ?_)
    refine lv_aload_n hx hb d_Ref_run_83 rfl (lv_at hl 3 rfl) ?_
    refine rg_ 0 hq hP (by decide) wt_484 rfl rfl d_Ref_run_84 ?_
    refine lv_if_le (tgt := 92) hx hb d_Ref_run_87 (by decide) (fun c_6 => ?_) (fun c_6 => ?_)
    · refine lv_aload_n hx hb d_Ref_run_92 rfl (lv_at hl 3 rfl) ?_
      refine lv_iload_n hx hb d_Ref_run_93 rfl (lv_at hl 4 rfl) ?_
      refine hi_ (As := [.int a0]) (rest := [.ref o]) hq hA hS (c_Ref_result l A ad a0) kB_Ref_result wt_536 ⟨rfl, rfl, Nat.le_of_ble_eq_true rfl, Nat.le_of_ble_eq_true rfl⟩ rfl hl.1 rfl (Nat.le_of_ble_eq_true rfl) d_Ref_run_94 ⟨Nat.zero_le _, Nat.zero_le _⟩ ?_
      refine lv_iconst (v := (2 : Int32)) hx hb d_Ref_run_97 (by decide) ?_
      refine lv_irem hx hb d_Ref_run_98 (by decide) ?_
      refine jn_ (J := 113) (ls := ls) (v := .long (if ((q_Ref_result a0) - (q_Ref_result a0) / (2 : Int32) * (2 : Int32)) = 0 then ((q_Ref_answer (if (q_Ref_isIn a0 (69 : Int32) (191 : Int32)) = 0 then (1 : Int32) else (0 : Int32)) a0 (if ((q_Ref_first a0) - (q_Ref_first a0) / (2 : Int32) * (2 : Int32)) = 0 then (a1 &&& (4294967295 : Int64)) else a1) (if ((q_Ref_first a0) - (q_Ref_first a0) / (2 : Int32) * (2 : Int32)) = 0 then (a2 &&& (4294967295 : Int64)) else a2)) &&& (4294967295 : Int64)) else (q_Ref_answer (if (q_Ref_isIn a0 (69 : Int32) (191 : Int32)) = 0 then (1 : Int32) else (0 : Int32)) a0 (if ((q_Ref_first a0) - (q_Ref_first a0) / (2 : Int32) * (2 : Int32)) = 0 then (a1 &&& (4294967295 : Int64)) else a1) (if ((q_Ref_first a0) - (q_Ref_first a0) / (2 : Int32) * (2 : Int32)) = 0 then (a2 &&& (4294967295 : Int64)) else a2)))) (rest := [.ref o]) (fun hj => ?_) ?_
      · refine lv_if_ne (tgt := 111) hx hb d_Ref_run_99 (by decide) (fun c_7 => ?_) (fun c_7 => ?_)
        · refine lv_lload hx hb d_Ref_run_111 (lv_at hl 0 rfl) ?_
          exact (by rw [if_neg c_7] at hj; exact hj)
        · refine lv_lload hx hb d_Ref_run_102 (lv_at hl 0 rfl) ?_
          refine lv_ldc2 (v := (4294967295 : Int64)) hx hb hq.2.2.2.1 (hts _ wt_549) d_Ref_run_104 ?_
          refine lv_land hx hb d_Ref_run_107 ?_
          refine lv_goto (tgt := 113) hx hb d_Ref_run_108 (by decide) ?_
          exact (by rw [if_pos c_7] at hj; exact hj)
      refine rp_ 1 (ty := tR 1) hq hne hP hS (by decide) wt_485 rfl rfl rfl rfl rfl (Nat.le_of_ble_eq_true rfl) d_Ref_run_113 (fun H locs hP hS => ?_)
      have hP : va_P D clR (rw_ o r cB (rf_ (q_Ref_answer_cd (if (q_Ref_isIn a0 (69 : Int32) (191 : Int32)) = 0 then (1 : Int32) else (0 : Int32)) a0 (if ((q_Ref_first a0) - (q_Ref_first a0) / (2 : Int32) * (2 : Int32)) = 0 then (a1 &&& (4294967295 : Int64)) else a1) (if ((q_Ref_first a0) - (q_Ref_first a0) / (2 : Int32) * (2 : Int32)) = 0 then (a2 &&& (4294967295 : Int64)) else a2)) (if ((q_Ref_result a0) - (q_Ref_result a0) / (2 : Int32) * (2 : Int32)) = 0 then ((q_Ref_answer (if (q_Ref_isIn a0 (69 : Int32) (191 : Int32)) = 0 then (1 : Int32) else (0 : Int32)) a0 (if ((q_Ref_first a0) - (q_Ref_first a0) / (2 : Int32) * (2 : Int32)) = 0 then (a1 &&& (4294967295 : Int64)) else a1) (if ((q_Ref_first a0) - (q_Ref_first a0) / (2 : Int32) * (2 : Int32)) = 0 then (a2 &&& (4294967295 : Int64)) else a2)) &&& (4294967295 : Int64)) else (q_Ref_answer (if (q_Ref_isIn a0 (69 : Int32) (191 : Int32)) = 0 then (1 : Int32) else (0 : Int32)) a0 (if ((q_Ref_first a0) - (q_Ref_first a0) / (2 : Int32) * (2 : Int32)) = 0 then (a1 &&& (4294967295 : Int64)) else a1) (if ((q_Ref_first a0) - (q_Ref_first a0) / (2 : Int32) * (2 : Int32)) = 0 then (a2 &&& (4294967295 : Int64)) else a2))) r lo_5 hi_5 re_5 wi_5 fr_5 bi_5 mi_5 am_5 we_5) f_5) H := hP
      refine lv_aload_n hx hb d_Ref_run_116 rfl (lv_at hl 3 rfl) ?_
      refine rg_ 1 hq hP (by decide) wt_485 rfl rfl d_Ref_run_117 ?_
      exact qr_l hq hr hk hP hS ⟨congrArg (fun z => some (Value.long z)) (by unfold q_Ref_run; exact (((if_pos c_2).trans ((if_pos c_6).trans rfl))).symm), _, _, _, _, _, _, _, _, _, _, (by rw [show q_Ref_run_cd la a0 a1 a2 = (q_Ref_answer_cd (if (q_Ref_isIn a0 (69 : Int32) (191 : Int32)) = 0 then (1 : Int32) else (0 : Int32)) a0 (if ((q_Ref_first a0) - (q_Ref_first a0) / (2 : Int32) * (2 : Int32)) = 0 then (a1 &&& (4294967295 : Int64)) else a1) (if ((q_Ref_first a0) - (q_Ref_first a0) / (2 : Int32) * (2 : Int32)) = 0 then (a2 &&& (4294967295 : Int64)) else a2)) from by unfold q_Ref_run_cd; exact ((if_pos c_2).trans ((if_pos c_6).trans rfl)), show q_Ref_run_la la a0 a1 a2 = (if ((q_Ref_result a0) - (q_Ref_result a0) / (2 : Int32) * (2 : Int32)) = 0 then ((q_Ref_answer (if (q_Ref_isIn a0 (69 : Int32) (191 : Int32)) = 0 then (1 : Int32) else (0 : Int32)) a0 (if ((q_Ref_first a0) - (q_Ref_first a0) / (2 : Int32) * (2 : Int32)) = 0 then (a1 &&& (4294967295 : Int64)) else a1) (if ((q_Ref_first a0) - (q_Ref_first a0) / (2 : Int32) * (2 : Int32)) = 0 then (a2 &&& (4294967295 : Int64)) else a2)) &&& (4294967295 : Int64)) else (q_Ref_answer (if (q_Ref_isIn a0 (69 : Int32) (191 : Int32)) = 0 then (1 : Int32) else (0 : Int32)) a0 (if ((q_Ref_first a0) - (q_Ref_first a0) / (2 : Int32) * (2 : Int32)) = 0 then (a1 &&& (4294967295 : Int64)) else a1) (if ((q_Ref_first a0) - (q_Ref_first a0) / (2 : Int32) * (2 : Int32)) = 0 then (a2 &&& (4294967295 : Int64)) else a2))) from by unfold q_Ref_run_la; exact ((if_pos c_2).trans ((if_pos c_6).trans rfl))]; first | done | rfl), hre_5, hf_5, hI_5⟩ d_Ref_run_120
    · refine lv_lconst (v := (0 : Int64)) hx hb d_Ref_run_90 (by decide) ?_
      exact qr_l hq hr hk hP hS ⟨congrArg (fun z => some (Value.long z)) (by unfold q_Ref_run; exact (((if_pos c_2).trans ((if_neg c_6).trans rfl))).symm), _, _, _, _, _, _, _, _, _, _, (by rw [show q_Ref_run_cd la a0 a1 a2 = (q_Ref_answer_cd (if (q_Ref_isIn a0 (69 : Int32) (191 : Int32)) = 0 then (1 : Int32) else (0 : Int32)) a0 (if ((q_Ref_first a0) - (q_Ref_first a0) / (2 : Int32) * (2 : Int32)) = 0 then (a1 &&& (4294967295 : Int64)) else a1) (if ((q_Ref_first a0) - (q_Ref_first a0) / (2 : Int32) * (2 : Int32)) = 0 then (a2 &&& (4294967295 : Int64)) else a2)) from by unfold q_Ref_run_cd; exact ((if_pos c_2).trans ((if_neg c_6).trans rfl)), show q_Ref_run_la la a0 a1 a2 = la from by unfold q_Ref_run_la; exact ((if_pos c_2).trans ((if_neg c_6).trans rfl))]; first | done | rfl), hre_5, hf_5, hI_5⟩ d_Ref_run_91
  · refine lv_lconst (v := (0 : Int64)) hx hb d_Ref_run_28 (by decide) ?_
    exact qr_l hq hr hk hP hS ⟨congrArg (fun z => some (Value.long z)) (by unfold q_Ref_run; exact (((if_neg c_2).trans rfl)).symm), _, _, _, _, _, _, _, _, _, _, (by rw [show q_Ref_run_cd la a0 a1 a2 = (if (q_Ref_isIn a0 (69 : Int32) (191 : Int32)) = 0 then (1 : Int32) else (0 : Int32)) from by unfold q_Ref_run_cd; exact ((if_neg c_2).trans rfl), show q_Ref_run_la la a0 a1 a2 = la from by unfold q_Ref_run_la; exact ((if_neg c_2).trans rfl)]; first | done | rfl), hre, hf, hI⟩ d_Ref_run_29
def q_Ref_next (la : Int64) (a0 : Int32) (a1 : Int64) : Int64 :=
  (q_Ref_run la a0 la a1)
def q_Ref_next_cd (la : Int64) (a0 : Int32) (a1 : Int64) : Int32 :=
  (q_Ref_run_cd la a0 la a1)
def q_Ref_next_la (la : Int64) (a0 : Int32) (a1 : Int64) : Int64 :=
  (q_Ref_run_la la a0 la a1)
theorem kB_Ref_next : RB y_Ref_next b_Ref_next 4 (some .long) 2 := ⟨wt_713, wt_711, wt_712, wt_36, by decide +kernel⟩
set_option maxHeartbeats 4000000 in
set_option maxRecDepth 100000 in
theorem c_Ref_next (l : Launch) (A : Nat → Prop) (ad : Nat → Nat) (D : va_G) (cB cJ : ClassId) (o r : Nat) (hne : o ≠ r) (hA : ∀ q, rA o r q → A q) (cd : Int32) (la : Int64) (lo : Int32) (hi : Int32) (re : Int32) (wi : Int32) (fr : Int32) (bi : Int32) (mi : Int32) (am : Int64) (we : Int32) (f : Nat → Int32) (N : Nat) (hf : RowIs f N) (hI : RI lo hi N) (hre : re = 0 ∨ re = 1) (a0 : Int32) (a1 : Int64) : Met l y_Ref_next (Cond.code y_Ref_next b_Ref_next 4 (some .long) :: BT) ({ frames := 7, cells := 0, slots := 0, locals := 185 }) (PR A ad D cB cJ o r (rf_ cd la r lo hi re wi fr bi mi am we) f [.int a0, .long a1]) (QP D cB o r (fun v fs' f' => v = some (.long (q_Ref_next la a0 a1)) ∧ SJ r (q_Ref_next_cd la a0 a1) (q_Ref_next_la la a0 a1) fs' f')) 0 0 (rA o r) := by
  refine pr_ (by decide) (Nat.le_of_ble_eq_true rfl) ?_
  intro p e s m below meth c hq hP hS hr hk ls hl
  have hx := hq.1
  have hb := hq.2.1
  have hts := hq.2.2.2.2.1
  have hl : lv_has ls 4 [(0, .ref o), (1, .int a0), (2, .long a1)] := hl
  refine lv_aload_n hx hb d_Ref_next_0 rfl (lv_at hl 0 rfl) ?_
  refine lv_iload_n hx hb d_Ref_next_1 rfl (lv_at hl 1 rfl) ?_
  refine lv_aload_n hx hb d_Ref_next_2 rfl (lv_at hl 0 rfl) ?_
  refine rg_ 1 hq hP (by decide) wt_485 rfl rfl d_Ref_next_3 ?_
  refine lv_lload_n hx hb d_Ref_next_6 rfl (lv_at hl 2 rfl) ?_
  refine rq_ (As := [.int a0, .long la, .long a1]) (rest := []) hq hA hP hS (c_Ref_run l A ad D cB cJ o r hne hA cd la lo hi re wi fr bi mi am we f N hf hI hre a0 la a1) kB_Ref_run wt_714 ⟨rfl, rfl, Nat.le_of_ble_eq_true rfl, Nat.le_of_ble_eq_true rfl⟩ rfl hl.1 rfl (Nat.le_of_ble_eq_true rfl) d_Ref_next_7 ⟨Nat.zero_le _, Nat.zero_le _⟩ (fun v9 fs9 f_1 H locs hk9 hP hS => ?_)
  obtain ⟨rfl, lo_1, hi_1, re_1, wi_1, fr_1, bi_1, mi_1, am_1, we_1, N_1, rfl, hre_1, hf_1, hI_1⟩ := hk9
  exact qr_l hq hr hk hP hS ⟨congrArg (fun z => some (Value.long z)) (by unfold q_Ref_next; exact (rfl).symm), _, _, _, _, _, _, _, _, _, _, (by rw [show q_Ref_next_cd la a0 a1 = (q_Ref_run_cd la a0 la a1) from by unfold q_Ref_next_cd; exact rfl, show q_Ref_next_la la a0 a1 = (q_Ref_run_la la a0 la a1) from by unfold q_Ref_next_la; exact rfl]; first | done | rfl), hre_1, hf_1, hI_1⟩ d_Ref_next_10
def q_Ref_into (la : Int64) (a0 : Int32) (a1 : Int64) : Int64 :=
  (q_Ref_run la a0 a1 la)
def q_Ref_into_cd (la : Int64) (a0 : Int32) (a1 : Int64) : Int32 :=
  (q_Ref_run_cd la a0 a1 la)
def q_Ref_into_la (la : Int64) (a0 : Int32) (a1 : Int64) : Int64 :=
  (q_Ref_run_la la a0 a1 la)
theorem kB_Ref_into : RB y_Ref_into b_Ref_into 4 (some .long) 2 := ⟨wt_718, wt_716, wt_717, wt_36, by decide +kernel⟩
set_option maxHeartbeats 4000000 in
set_option maxRecDepth 100000 in
theorem c_Ref_into (l : Launch) (A : Nat → Prop) (ad : Nat → Nat) (D : va_G) (cB cJ : ClassId) (o r : Nat) (hne : o ≠ r) (hA : ∀ q, rA o r q → A q) (cd : Int32) (la : Int64) (lo : Int32) (hi : Int32) (re : Int32) (wi : Int32) (fr : Int32) (bi : Int32) (mi : Int32) (am : Int64) (we : Int32) (f : Nat → Int32) (N : Nat) (hf : RowIs f N) (hI : RI lo hi N) (hre : re = 0 ∨ re = 1) (a0 : Int32) (a1 : Int64) : Met l y_Ref_into (Cond.code y_Ref_into b_Ref_into 4 (some .long) :: BT) ({ frames := 7, cells := 0, slots := 0, locals := 185 }) (PR A ad D cB cJ o r (rf_ cd la r lo hi re wi fr bi mi am we) f [.int a0, .long a1]) (QP D cB o r (fun v fs' f' => v = some (.long (q_Ref_into la a0 a1)) ∧ SJ r (q_Ref_into_cd la a0 a1) (q_Ref_into_la la a0 a1) fs' f')) 0 0 (rA o r) := by
  refine pr_ (by decide) (Nat.le_of_ble_eq_true rfl) ?_
  intro p e s m below meth c hq hP hS hr hk ls hl
  have hx := hq.1
  have hb := hq.2.1
  have hts := hq.2.2.2.2.1
  have hl : lv_has ls 4 [(0, .ref o), (1, .int a0), (2, .long a1)] := hl
  refine lv_aload_n hx hb d_Ref_into_0 rfl (lv_at hl 0 rfl) ?_
  refine lv_iload_n hx hb d_Ref_into_1 rfl (lv_at hl 1 rfl) ?_
  refine lv_lload_n hx hb d_Ref_into_2 rfl (lv_at hl 2 rfl) ?_
  refine lv_aload_n hx hb d_Ref_into_3 rfl (lv_at hl 0 rfl) ?_
  refine rg_ 1 hq hP (by decide) wt_485 rfl rfl d_Ref_into_4 ?_
  refine rq_ (As := [.int a0, .long a1, .long la]) (rest := []) hq hA hP hS (c_Ref_run l A ad D cB cJ o r hne hA cd la lo hi re wi fr bi mi am we f N hf hI hre a0 a1 la) kB_Ref_run wt_714 ⟨rfl, rfl, Nat.le_of_ble_eq_true rfl, Nat.le_of_ble_eq_true rfl⟩ rfl hl.1 rfl (Nat.le_of_ble_eq_true rfl) d_Ref_into_7 ⟨Nat.zero_le _, Nat.zero_le _⟩ (fun v9 fs9 f_1 H locs hk9 hP hS => ?_)
  obtain ⟨rfl, lo_1, hi_1, re_1, wi_1, fr_1, bi_1, mi_1, am_1, we_1, N_1, rfl, hre_1, hf_1, hI_1⟩ := hk9
  exact qr_l hq hr hk hP hS ⟨congrArg (fun z => some (Value.long z)) (by unfold q_Ref_into; exact (rfl).symm), _, _, _, _, _, _, _, _, _, _, (by rw [show q_Ref_into_cd la a0 a1 = (q_Ref_run_cd la a0 a1 la) from by unfold q_Ref_into_cd; exact rfl, show q_Ref_into_la la a0 a1 = (q_Ref_run_la la a0 a1 la) from by unfold q_Ref_into_la; exact rfl]; first | done | rfl), hre_1, hf_1, hI_1⟩ d_Ref_into_10
