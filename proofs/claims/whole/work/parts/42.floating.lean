theorem fl_pos {a0 : Int64} {n : Int32} (h : ¬ a0 = 0) : 0 < 0 + un_ (if n = 0 then a0 else -a0) * 2 ^ 2200 := by
  rw [Nat.zero_add]
  refine Nat.mul_pos (un_pos ?_) (Nat.two_pow_pos _)
  split
  · exact h
  · exact Int64.neg_ne_zero.mpr h
def q_Ref_floating (F B : Nat) (wi : Int32) (a0 : Int64) (a1 : Int32) : Int64 :=
  if a0 = (0 : Int64) then
    (0 : Int64)
  else
    (q_Ref_signed wi (lN (rR_ F B (2 * (0 + un_ (if (if a1 = 0 then (0 : Int32) else (if (0 : Int64) ≤ a0 then (0 : Int32) else (1 : Int32))) = 0 then a0 else (-a0)) * 2 ^ 2200) + (if (0 : Int32) = 0 then 0 else 1)) (-2201))) (if a1 = 0 then (0 : Int32) else (if (0 : Int64) ≤ a0 then (0 : Int32) else (1 : Int32))))
theorem kB_Ref_floating : RB y_Ref_floating b_Ref_floating 5 (some .long) 2 := ⟨wt_606, wt_605, wt_12, wt_36, by decide +kernel⟩
set_option maxHeartbeats 4000000 in
set_option maxRecDepth 100000 in
theorem c_Ref_floating (l : Launch) (A : Nat → Prop) (ad : Nat → Nat) (D : va_G) (cB cJ : ClassId) (o r : Nat) (hne : o ≠ r) (hA : ∀ q, rA o r q → A q) (cd : Int32) (la : Int64) (lo : Int32) (hi : Int32) (re : Int32) (wi : Int32) (fr : Int32) (bi : Int32) (mi : Int32) (am : Int64) (we : Int32) (f : Nat → Int32) (N : Nat) (hf : RowIs f N) (hI : RI lo hi N) (hre : re = 0 ∨ re = 1) (a0 : Int64) (a1 : Int32) (F B : Nat) (hfm : fmR wi fr bi F B) : Met l y_Ref_floating (Cond.code y_Ref_floating b_Ref_floating 5 (some .long) :: BT) ({ frames := 3, cells := 0, slots := 0, locals := 73 }) (PR A ad D cB cJ o r (rf_ cd la r lo hi re wi fr bi mi am we) f [.long a0, .int a1]) (QP D cB o r (fun v fs' f' => v = some (.long (q_Ref_floating F B wi a0 a1)) ∧ SJ r cd la fs' f')) 0 0 (rA o r) := by
  refine pr_ (by decide) (Nat.le_of_ble_eq_true rfl) ?_
  intro p e s m below meth c hq hP hS hr hk ls hl
  have hx := hq.1
  have hb := hq.2.1
  have hts := hq.2.2.2.2.1
  have hl : lv_has ls 5 [(0, .ref o), (1, .long a0), (3, .int a1)] := hl
  refine lv_lload_n hx hb d_Ref_floating_0 rfl (lv_at hl 1 rfl) ?_
  refine lv_lconst (v := (0 : Int64)) hx hb d_Ref_floating_1 (by decide) ?_
  refine W.lcmp hx hb d_Ref_floating_2 ?_
  refine lv_if_ne (tgt := 8) hx hb d_Ref_floating_3 (by decide) (fun c_1 => ?_) (fun c_1 => ?_)
  · rw [lg_cmp_eq] at c_1
    refine lv_iload_n hx hb d_Ref_floating_8 rfl (lv_at hl 2 rfl) ?_
    refine jn_ (J := 23) (ls := ls) (v := .int (if a1 = 0 then (0 : Int32) else (if (0 : Int64) ≤ a0 then (0 : Int32) else (1 : Int32)))) (rest := []) (fun hj => ?_) ?_
    · refine lv_if_eq (tgt := 22) hx hb d_Ref_floating_9 (by decide) (fun c_2 => ?_) (fun c_2 => ?_)
      · refine lv_iconst (v := (0 : Int32)) hx hb d_Ref_floating_22 (by decide) ?_
        exact (by rw [if_pos c_2] at hj; exact hj)
      · refine lv_lload_n hx hb d_Ref_floating_12 rfl (lv_at hl 1 rfl) ?_
        refine lv_lconst (v := (0 : Int64)) hx hb d_Ref_floating_13 (by decide) ?_
        refine W.lcmp hx hb d_Ref_floating_14 ?_
        refine jn_ (J := 23) (ls := ls) (v := .int (if (0 : Int64) ≤ a0 then (0 : Int32) else (1 : Int32))) (rest := []) (fun hj => ?_) ?_
        · refine lv_if_ge (tgt := 22) hx hb d_Ref_floating_15 (by decide) (fun c_3 => ?_) (fun c_3 => ?_)
          · rw [lg_cmp_ge] at c_3
            refine lv_iconst (v := (0 : Int32)) hx hb d_Ref_floating_22 (by decide) ?_
            exact (by rw [if_pos c_3] at hj; exact hj)
          · rw [lg_cmp_ge] at c_3
            refine lv_iconst (v := (1 : Int32)) hx hb d_Ref_floating_18 (by decide) ?_
            refine lv_goto (tgt := 23) hx hb d_Ref_floating_19 (by decide) ?_
            exact (by rw [if_neg c_3] at hj; exact hj)
        exact (by rw [if_neg c_2] at hj; exact hj)
    refine lv_istore (lv' := [(4, .int (if a1 = 0 then (0 : Int32) else (if (0 : Int64) ≤ a0 then (0 : Int32) else (1 : Int32)))), (0, .ref o), (1, .long a0), (3, .int a1)]) hx hb d_Ref_floating_23 hl (by decide) rfl (fun ls hl => ?_)
    refine lv_aload_n hx hb d_Ref_floating_25 rfl (lv_at hl 1 rfl) ?_
    refine rq_ (As := []) (rest := []) hq hA hP hS (c_Ref_clear l A ad D cB cJ o r hne hA cd la lo hi re wi fr bi mi am we f N hf hI) kB_Ref_clear wt_607 ⟨rfl, rfl, Nat.le_of_ble_eq_true rfl, Nat.le_of_ble_eq_true rfl⟩ rfl hl.1 rfl (Nat.le_of_ble_eq_true rfl) d_Ref_floating_26 ⟨Nat.zero_le _, Nat.zero_le _⟩ (fun v9 fs9 f_4 H locs hk9 hP hS => ?_)
    obtain ⟨rfl, rfl, hf_4⟩ := hk9
    refine lv_aload_n hx hb d_Ref_floating_29 rfl (lv_at hl 1 rfl) ?_
    refine lv_iload hx hb d_Ref_floating_30 (lv_at hl 0 rfl) ?_
    refine jn_ (J := 41) (ls := ls) (v := .long (if (if a1 = 0 then (0 : Int32) else (if (0 : Int64) ≤ a0 then (0 : Int32) else (1 : Int32))) = 0 then a0 else (-a0))) (rest := [.ref o]) (fun hj => ?_) ?_
    · refine lv_if_eq (tgt := 40) hx hb d_Ref_floating_32 (by decide) (fun c_5 => ?_) (fun c_5 => ?_)
      · refine lv_lload_n hx hb d_Ref_floating_40 rfl (lv_at hl 2 rfl) ?_
        exact (by rw [if_pos c_5] at hj; exact hj)
      · refine lv_lload_n hx hb d_Ref_floating_35 rfl (lv_at hl 2 rfl) ?_
        refine lv_lneg hx hb d_Ref_floating_36 ?_
        refine lv_goto (tgt := 41) hx hb d_Ref_floating_37 (by decide) ?_
        exact (by rw [if_neg c_5] at hj; exact hj)
    refine lv_iconst (v := (0 : Int32)) hx hb d_Ref_floating_41 (by decide) ?_
    refine rq_ (As := [.long (if (if a1 = 0 then (0 : Int32) else (if (0 : Int64) ≤ a0 then (0 : Int32) else (1 : Int32))) = 0 then a0 else (-a0)), .int (0 : Int32)]) (rest := []) hq hA hP hS (c_Ref_addX l A ad D cB cJ o r hne hA cd la (nI 4400) (0 : Int32) (0 : Int32) wi fr bi mi am we f_4 0 hf_4 ri_0 (if (if a1 = 0 then (0 : Int32) else (if (0 : Int64) ≤ a0 then (0 : Int32) else (1 : Int32))) = 0 then a0 else (-a0)) (0 : Int32) 2200 rfl (by decide) (fits_row (by decide))) kB_Ref_add wt_611 ⟨rfl, rfl, Nat.le_of_ble_eq_true rfl, Nat.le_of_ble_eq_true rfl⟩ rfl hl.1 rfl (Nat.le_of_ble_eq_true rfl) d_Ref_floating_42 ⟨Nat.zero_le _, Nat.zero_le _⟩ (fun v9 fs9 f_6 H locs hk9 hP hS => ?_)
    obtain ⟨rfl, lo_6, hi_6, rfl, hf_6, hI_6⟩ := hk9
    refine lv_aload_n hx hb d_Ref_floating_45 rfl (lv_at hl 1 rfl) ?_
    refine lv_iload hx hb d_Ref_floating_46 (lv_at hl 0 rfl) ?_
    refine rv_l (As := [.int (if a1 = 0 then (0 : Int32) else (if (0 : Int64) ≤ a0 then (0 : Int32) else (1 : Int32)))]) (rest := []) hq hA hP hS (c_Ref_rounded l A ad D cB cJ o r hne hA cd la lo_6 hi_6 (0 : Int32) wi fr bi mi am we f_6 (if a1 = 0 then (0 : Int32) else (if (0 : Int64) ≤ a0 then (0 : Int32) else (1 : Int32))) (0 + un_ (if (if a1 = 0 then (0 : Int32) else (if (0 : Int64) ≤ a0 then (0 : Int32) else (1 : Int32))) = 0 then a0 else (-a0)) * 2 ^ 2200) F B hf_6 hI_6 (fl_pos c_1) (Or.inl rfl) (fmR_f hfm) (fmR_b hfm) (fmR_FB hfm)) kB_Ref_rounded wt_619 ⟨rfl, rfl, Nat.le_of_ble_eq_true rfl, Nat.le_of_ble_eq_true rfl⟩ rfl hl.1 rfl (Nat.le_of_ble_eq_true rfl) d_Ref_floating_48 ⟨Nat.zero_le _, Nat.zero_le _⟩ (fun H locs hP hS => ?_)
    exact qr_l hq hr hk hP hS ⟨congrArg (fun z => some (Value.long z)) (by unfold q_Ref_floating; exact (((if_neg c_1).trans rfl)).symm), _, _, _, _, _, _, _, _, _, _, rfl, (Or.inl rfl), hf_6, hI_6⟩ d_Ref_floating_51
  · rw [lg_cmp_eq] at c_1
    refine lv_lconst (v := (0 : Int64)) hx hb d_Ref_floating_6 (by decide) ?_
    exact qr_l hq hr hk hP hS ⟨congrArg (fun z => some (Value.long z)) (by unfold q_Ref_floating; exact (((if_pos c_1).trans rfl)).symm), _, _, _, _, _, _, _, _, _, _, rfl, hre, hf, hI⟩ d_Ref_floating_7
