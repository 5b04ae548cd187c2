def q_Main_kind (a0 a1 : Int32) : Int32 :=
  if (q_Operations_exists a0) = 0 then
    (-1 : Int32)
  else
    if a1 = (0 : Int32) then
      (q_Kinds_ofAnswer a0)
    else
      if a1 = (1 : Int32) then
        (q_Kinds_ofFirst a0)
      else
        if a1 = (2 : Int32) then
          (q_Kinds_ofSecond a0)
        else
          (-1 : Int32)
set_option maxHeartbeats 4000000 in
set_option maxRecDepth 100000 in
theorem c_Main_kind (l : Launch) (A : Nat → Prop) (ad : Nat → Nat) (x : Nat) (a0 a1 : Int32) : Met l y_Main_kind (Cond.code y_Main_kind b_Main_kind 3 (some .int) :: BT) ({ frames := 4, cells := 0, slots := 0, locals := 82 }) (PC A ad [.ref x, .int a0, .int a1]) (vp_Si (fun r => r = q_Main_kind a0 a1)) 0 0 (fun _ => False) := by
  refine pm_ (by decide +kernel) (Nat.le_of_ble_eq_true rfl) ?_
  intro p e s m below meth c hq hr hk ls hl
  have hx := hq.1
  have hb := hq.2.1
  have hts := hq.2.2.2.2.1
  have hl : lv_has ls 3 [(0, .ref x), (1, .int a0), (2, .int a1)] := hl
  refine lv_iload_n hx hb d_Main_kind_0 rfl (lv_at hl 1 rfl) ?_
  refine si_ (As := [.int a0]) (rest := []) hq (c_Operations_exists l A ad a0) kB_Operations_exists wt_76 ⟨rfl, rfl, Nat.le_of_ble_eq_true rfl, Nat.le_of_ble_eq_true rfl⟩ rfl hl.1 rfl (Nat.le_of_ble_eq_true rfl) d_Main_kind_1 ⟨Nat.zero_le _, Nat.zero_le _⟩ ?_
  refine lv_if_ne (tgt := 9) hx hb d_Main_kind_4 (by decide) (fun c_1 => ?_) (fun c_1 => ?_)
  · refine lv_iload_n hx hb d_Main_kind_9 rfl (lv_at hl 2 rfl) ?_
    by_cases c_2 : a1 = (0 : Int32)
    · refine lv_tableIn (tgt := 36) hx hb d_Main_kind_10 (by rw [c_2]; decide) (by rw [c_2]; decide) (by rw [c_2]; rfl) (by decide) ?_
      refine lv_iload_n hx hb d_Main_kind_36 rfl (lv_at hl 1 rfl) ?_
      refine si_ (As := [.int a0]) (rest := []) hq (c_Kinds_ofAnswer l A ad a0) kB_Kinds_ofAnswer wt_79 ⟨rfl, rfl, Nat.le_of_ble_eq_true rfl, Nat.le_of_ble_eq_true rfl⟩ rfl hl.1 rfl (Nat.le_of_ble_eq_true rfl) d_Main_kind_37 ⟨Nat.zero_le _, Nat.zero_le _⟩ ?_
      exact ri_ hx hb hr hk (by rw [q_Main_kind, if_neg c_1, if_pos c_2]) d_Main_kind_40
    by_cases c_3 : a1 = (1 : Int32)
    · refine lv_tableIn (tgt := 41) hx hb d_Main_kind_10 (by rw [c_3]; decide) (by rw [c_3]; decide) (by rw [c_3]; rfl) (by decide) ?_
      refine lv_iload_n hx hb d_Main_kind_41 rfl (lv_at hl 1 rfl) ?_
      refine si_ (As := [.int a0]) (rest := []) hq (c_Kinds_ofFirst l A ad a0) kB_Kinds_ofFirst wt_99 ⟨rfl, rfl, Nat.le_of_ble_eq_true rfl, Nat.le_of_ble_eq_true rfl⟩ rfl hl.1 rfl (Nat.le_of_ble_eq_true rfl) d_Main_kind_42 ⟨Nat.zero_le _, Nat.zero_le _⟩ ?_
      exact ri_ hx hb hr hk (by rw [q_Main_kind, if_neg c_1, if_neg c_2, if_pos c_3]) d_Main_kind_45
    by_cases c_4 : a1 = (2 : Int32)
    · refine lv_tableIn (tgt := 46) hx hb d_Main_kind_10 (by rw [c_4]; decide) (by rw [c_4]; decide) (by rw [c_4]; rfl) (by decide) ?_
      refine lv_iload_n hx hb d_Main_kind_46 rfl (lv_at hl 1 rfl) ?_
      refine si_ (As := [.int a0]) (rest := []) hq (c_Kinds_ofSecond l A ad a0) kB_Kinds_ofSecond wt_100 ⟨rfl, rfl, Nat.le_of_ble_eq_true rfl, Nat.le_of_ble_eq_true rfl⟩ rfl hl.1 rfl (Nat.le_of_ble_eq_true rfl) d_Main_kind_47 ⟨Nat.zero_le _, Nat.zero_le _⟩ ?_
      exact ri_ hx hb hr hk (by rw [q_Main_kind, if_neg c_1, if_neg c_2, if_neg c_3, if_pos c_4]) d_Main_kind_50
    have hsw : a1.toInt < 0 ∨ 2 < a1.toInt := by
      have := lv_neT c_2 (a := 0) (by decide)
      have := lv_neT c_3 (a := 1) (by decide)
      have := lv_neT c_4 (a := 2) (by decide)
      omega
    refine lv_tableOut (tgt := 51) hx hb d_Main_kind_10 hsw (by decide) ?_
    refine lv_iconst (v := (-1 : Int32)) hx hb d_Main_kind_51 (by decide) ?_
    exact ri_ hx hb hr hk (by rw [q_Main_kind, if_neg c_1, if_neg c_2, if_neg c_3, if_neg c_4]) d_Main_kind_52
  · refine lv_iconst (v := (-1 : Int32)) hx hb d_Main_kind_7 (by decide) ?_
    exact ri_ hx hb hr hk (by rw [q_Main_kind, if_pos c_1]) d_Main_kind_8
