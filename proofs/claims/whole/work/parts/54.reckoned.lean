theorem rk_w {w : Int32} (h : w = 32 ∨ w = 64) : ¬ w < 0 := by rcases h with rfl | rfl <;> decide
theorem rk_32 (b : Int64) : Int64.toInt32 (b &&& Int32.toInt64 (32 - 1)) = nI (un_ b % 32) := by
  obtain ⟨n, hn, rfl⟩ := wb_of b
  rw [show Int32.toInt64 (32 - 1) = lN (32 - 1) from rfl, g_mask (s := 5) rfl (by decide) hn, lN_i, un_of hn]
theorem rk_64 (b : Int64) : Int64.toInt32 (b &&& Int32.toInt64 (64 - 1)) = nI (un_ b % 64) := by
  obtain ⟨n, hn, rfl⟩ := wb_of b
  rw [show Int32.toInt64 (64 - 1) = lN (64 - 1) from rfl, g_mask (s := 6) rfl (by decide) hn, lN_i, un_of hn]
theorem nI_nn {k : Nat} (h : k < 2 ^ 31) : ¬ nI k < 0 := by
  rw [← zI_n, show (0 : Int32) = zI 0 from rfl, zI_lt ⟨by omega, by omega⟩ ⟨by omega, by omega⟩]
  omega
theorem rk_n {w : Int32} (h : w = 32 ∨ w = 64) (b : Int64) : ¬ Int64.toInt32 (b &&& Int32.toInt64 (w - 1)) < 0 := by
  rcases h with rfl | rfl
  · rw [rk_32]; exact nI_nn (by omega)
  · rw [rk_64]; exact nI_nn (by omega)
theorem rk_t32 : ∀ k : Nat, k < 32 → ((32 : Int32) - nI k) - ((32 : Int32) - nI k) / 32 * 32 = nI ((32 - k) % 32) := by decide +kernel
theorem rk_t64 : ∀ k : Nat, k < 64 → ((64 : Int32) - nI k) - ((64 : Int32) - nI k) / 64 * 64 = nI ((64 - k) % 64) := by decide +kernel
theorem rk_t {w : Int32} (h : w = 32 ∨ w = 64) (b : Int64) : ¬ (w - Int64.toInt32 (b &&& Int32.toInt64 (w - 1))) - (w - Int64.toInt32 (b &&& Int32.toInt64 (w - 1))) / w * w < 0 := by
  rcases h with rfl | rfl
  · rw [rk_32, rk_t32 _ (by omega)]; exact nI_nn (by omega)
  · rw [rk_64, rk_t64 _ (by omega)]; exact nI_nn (by omega)
def fF (x : Int32) : Nat := if x = 32 then 23 else 52
def fB (x : Int32) : Nat := if x = 32 then 127 else 1023
theorem fm_of {x : Int32} (h : x = 32 ∨ x = 64) : fmR (q_Ref_format_wi x) (q_Ref_format_fr x) (q_Ref_format_bi x) (fF x) (fB x) := by
  rcases h with rfl | rfl
  · exact Or.inl ⟨rfl, rfl, rfl, rfl, rfl⟩
  · exact Or.inr ⟨rfl, rfl, rfl, rfl, rfl⟩
def q_Ref_reckoned (cd : Int32) (a0 : Int32) (a1 : Int32) (a2 : Int64) (a3 : Int64) : Int64 :=
  if a0 = (0 : Int32) then
    (Int32.toInt64 (q_Ref_count a2 a1 a0))
  else
    if a0 = (1 : Int32) then
      (Int32.toInt64 (q_Ref_count a2 a1 a0))
    else
      if a0 = (2 : Int32) then
        (Int32.toInt64 (q_Ref_count a2 a1 a0))
      else
        if a0 = (3 : Int32) then
          (a2 + a3)
        else
          if a0 = (4 : Int32) then
            (a2 - a3)
          else
            if a0 = (5 : Int32) then
              (a2 * a3)
            else
              if a0 = (6 : Int32) then
                (q_Ref_byDivision cd a0 a1 a2 a3)
              else
                if a0 = (7 : Int32) then
                  (q_Ref_byDivision cd a0 a1 a2 a3)
                else
                  if a0 = (8 : Int32) then
                    (q_Ref_byDivision cd a0 a1 a2 a3)
                  else
                    if a0 = (9 : Int32) then
                      (q_Ref_byDivision cd a0 a1 a2 a3)
                    else
                      if a0 = (10 : Int32) then
                        (a2 &&& a3)
                      else
                        if a0 = (11 : Int32) then
                          (a2 ||| a3)
                        else
                          if a0 = (12 : Int32) then
                            (a2 ^^^ a3)
                          else
                            if a0 = (13 : Int32) then
                              (q_Ref_moved a0 a1 a2 (Int64.toInt32 (a3 &&& (Int32.toInt64 (a1 - (1 : Int32))))))
                            else
                              if a0 = (14 : Int32) then
                                (q_Ref_moved a0 a1 a2 (Int64.toInt32 (a3 &&& (Int32.toInt64 (a1 - (1 : Int32))))))
                              else
                                if a0 = (15 : Int32) then
                                  (q_Ref_moved a0 a1 a2 (Int64.toInt32 (a3 &&& (Int32.toInt64 (a1 - (1 : Int32))))))
                                else
                                  if a0 = (16 : Int32) then
                                    (q_Ref_turned a2 a1 (Int64.toInt32 (a3 &&& (Int32.toInt64 (a1 - (1 : Int32))))))
                                  else
                                    (q_Ref_turned a2 a1 ((a1 - (Int64.toInt32 (a3 &&& (Int32.toInt64 (a1 - (1 : Int32)))))) - (a1 - (Int64.toInt32 (a3 &&& (Int32.toInt64 (a1 - (1 : Int32)))))) / a1 * a1))
def q_Ref_reckoned_cd (cd : Int32) (a0 : Int32) (a1 : Int32) (a2 : Int64) (a3 : Int64) : Int32 :=
  if a0 = (0 : Int32) then
    cd
  else
    if a0 = (1 : Int32) then
      cd
    else
      if a0 = (2 : Int32) then
        cd
      else
        if a0 = (3 : Int32) then
          cd
        else
          if a0 = (4 : Int32) then
            cd
          else
            if a0 = (5 : Int32) then
              cd
            else
              if a0 = (6 : Int32) then
                (q_Ref_byDivision_cd cd a0 a1 a2 a3)
              else
                if a0 = (7 : Int32) then
                  (q_Ref_byDivision_cd cd a0 a1 a2 a3)
                else
                  if a0 = (8 : Int32) then
                    (q_Ref_byDivision_cd cd a0 a1 a2 a3)
                  else
                    if a0 = (9 : Int32) then
                      (q_Ref_byDivision_cd cd a0 a1 a2 a3)
                    else
                      if a0 = (10 : Int32) then
                        cd
                      else
                        if a0 = (11 : Int32) then
                          cd
                        else
                          if a0 = (12 : Int32) then
                            cd
                          else
                            if a0 = (13 : Int32) then
                              cd
                            else
                              if a0 = (14 : Int32) then
                                cd
                              else
                                if a0 = (15 : Int32) then
                                  cd
                                else
                                  if a0 = (16 : Int32) then
                                    cd
                                  else
                                    cd
theorem kB_Ref_reckoned : RB y_Ref_reckoned b_Ref_reckoned 8 (some .long) 4 := ⟨wt_686, wt_685, wt_31, wt_36, by decide +kernel⟩
set_option maxHeartbeats 4000000 in
set_option maxRecDepth 100000 in
theorem c_Ref_reckoned (l : Launch) (A : Nat → Prop) (ad : Nat → Nat) (D : va_G) (cB cJ : ClassId) (o r : Nat) (hne : o ≠ r) (hA : ∀ q, rA o r q → A q) (cd : Int32) (la : Int64) (lo : Int32) (hi : Int32) (re : Int32) (wi : Int32) (fr : Int32) (bi : Int32) (mi : Int32) (am : Int64) (we : Int32) (f : Nat → Int32) (a0 : Int32) (a1 : Int32) (a2 : Int64) (a3 : Int64) (hw : a1 = 32 ∨ a1 = 64) (hz : ¬ a1 = 0) : Met l y_Ref_reckoned (Cond.code y_Ref_reckoned b_Ref_reckoned 8 (some .long) :: BT) ({ frames := 3, cells := 0, slots := 0, locals := 88 }) (PR A ad D cB cJ o r (rf_ cd la r lo hi re wi fr bi mi am we) f [.int a0, .int a1, .long a2, .long a3]) (QRl D cB o r (q_Ref_reckoned cd a0 a1 a2 a3) (rf_ (q_Ref_reckoned_cd cd a0 a1 a2 a3) la r lo hi re wi fr bi mi am we) f) 0 0 (rA o r) := by
  refine pr_ (by decide) (Nat.le_of_ble_eq_true rfl) ?_
  intro p e s m below meth c hq hP hS hr hk ls hl
  have hx := hq.1
  have hb := hq.2.1
  have hts := hq.2.2.2.2.1
  have hl : lv_has ls 8 [(0, .ref o), (1, .int a0), (2, .int a1), (3, .long a2), (5, .long a3)] := hl
  refine lv_lload hx hb d_Ref_reckoned_0 (lv_at hl 4 rfl) ?_
  refine lv_iload_n hx hb d_Ref_reckoned_2 rfl (lv_at hl 2 rfl) ?_
  refine lv_iconst (v := (1 : Int32)) hx hb d_Ref_reckoned_3 (by decide) ?_
  refine lv_isub hx hb d_Ref_reckoned_4 ?_
  refine lv_i2l (v := (Int32.toInt64 (a1 - (1 : Int32)))) hx hb d_Ref_reckoned_5 rfl ?_
  refine lv_land hx hb d_Ref_reckoned_6 ?_
  refine lv_l2i (v := (Int64.toInt32 (a3 &&& (Int32.toInt64 (a1 - (1 : Int32)))))) hx hb d_Ref_reckoned_7 rfl ?_
  refine lv_istore (lv' := [(7, .int (Int64.toInt32 (a3 &&& (Int32.toInt64 (a1 - (1 : Int32)))))), (0, .ref o), (1, .int a0), (2, .int a1), (3, .long a2), (5, .long a3)]) hx hb d_Ref_reckoned_8 hl (by decide) rfl (fun ls hl => ?_)
  refine lv_iload_n hx hb d_Ref_reckoned_10 rfl (lv_at hl 2 rfl) ?_
  by_cases c_1 : a0 = (0 : Int32)
  · refine lv_tableIn (tgt := 92) hx hb d_Ref_reckoned_11 (by rw [c_1]; decide) (by rw [c_1]; decide) (by rw [c_1]; rfl) (by decide) ?_
    refine lv_lload_n hx hb d_Ref_reckoned_92 rfl (lv_at hl 4 rfl) ?_
    refine lv_iload_n hx hb d_Ref_reckoned_93 rfl (lv_at hl 3 rfl) ?_
    refine lv_iload_n hx hb d_Ref_reckoned_94 rfl (lv_at hl 2 rfl) ?_
    refine hi_ (As := [.long a2, .int a1, .int a0]) (rest := []) hq hA hS (c_Ref_count l A ad a2 a1 a0 (rk_w hw)) kB_Ref_count wt_687 ⟨rfl, rfl, Nat.le_of_ble_eq_true rfl, Nat.le_of_ble_eq_true rfl⟩ rfl hl.1 rfl (Nat.le_of_ble_eq_true rfl) d_Ref_reckoned_95 ⟨Nat.zero_le _, Nat.zero_le _⟩ ?_
    refine lv_i2l (v := (Int32.toInt64 (q_Ref_count a2 a1 a0))) hx hb d_Ref_reckoned_98 rfl ?_
    exact rr_l hq hr hk  hP hS (by unfold q_Ref_reckoned; exact (((if_pos c_1).trans rfl)).symm) (by rw [show q_Ref_reckoned_cd cd a0 a1 a2 a3 = cd from by unfold q_Ref_reckoned_cd; exact ((if_pos c_1).trans rfl)]) rfl d_Ref_reckoned_99
  by_cases c_2 : a0 = (1 : Int32)
  · refine lv_tableIn (tgt := 92) hx hb d_Ref_reckoned_11 (by rw [c_2]; decide) (by rw [c_2]; decide) (by rw [c_2]; rfl) (by decide) ?_
    refine lv_lload_n hx hb d_Ref_reckoned_92 rfl (lv_at hl 4 rfl) ?_
    refine lv_iload_n hx hb d_Ref_reckoned_93 rfl (lv_at hl 3 rfl) ?_
    refine lv_iload_n hx hb d_Ref_reckoned_94 rfl (lv_at hl 2 rfl) ?_
    refine hi_ (As := [.long a2, .int a1, .int a0]) (rest := []) hq hA hS (c_Ref_count l A ad a2 a1 a0 (rk_w hw)) kB_Ref_count wt_687 ⟨rfl, rfl, Nat.le_of_ble_eq_true rfl, Nat.le_of_ble_eq_true rfl⟩ rfl hl.1 rfl (Nat.le_of_ble_eq_true rfl) d_Ref_reckoned_95 ⟨Nat.zero_le _, Nat.zero_le _⟩ ?_
    refine lv_i2l (v := (Int32.toInt64 (q_Ref_count a2 a1 a0))) hx hb d_Ref_reckoned_98 rfl ?_
    exact rr_l hq hr hk  hP hS (by unfold q_Ref_reckoned; exact (((if_neg c_1).trans ((if_pos c_2).trans rfl))).symm) (by rw [show q_Ref_reckoned_cd cd a0 a1 a2 a3 = cd from by unfold q_Ref_reckoned_cd; exact ((if_neg c_1).trans ((if_pos c_2).trans rfl))]) rfl d_Ref_reckoned_99
  by_cases c_3 : a0 = (2 : Int32)
  · refine lv_tableIn (tgt := 92) hx hb d_Ref_reckoned_11 (by rw [c_3]; decide) (by rw [c_3]; decide) (by rw [c_3]; rfl) (by decide) ?_
    refine lv_lload_n hx hb d_Ref_reckoned_92 rfl (lv_at hl 4 rfl) ?_
    refine lv_iload_n hx hb d_Ref_reckoned_93 rfl (lv_at hl 3 rfl) ?_
    refine lv_iload_n hx hb d_Ref_reckoned_94 rfl (lv_at hl 2 rfl) ?_
    refine hi_ (As := [.long a2, .int a1, .int a0]) (rest := []) hq hA hS (c_Ref_count l A ad a2 a1 a0 (rk_w hw)) kB_Ref_count wt_687 ⟨rfl, rfl, Nat.le_of_ble_eq_true rfl, Nat.le_of_ble_eq_true rfl⟩ rfl hl.1 rfl (Nat.le_of_ble_eq_true rfl) d_Ref_reckoned_95 ⟨Nat.zero_le _, Nat.zero_le _⟩ ?_
    refine lv_i2l (v := (Int32.toInt64 (q_Ref_count a2 a1 a0))) hx hb d_Ref_reckoned_98 rfl ?_
    exact rr_l hq hr hk  hP hS (by unfold q_Ref_reckoned; exact (((if_neg c_1).trans ((if_neg c_2).trans ((if_pos c_3).trans rfl)))).symm) (by rw [show q_Ref_reckoned_cd cd a0 a1 a2 a3 = cd from by unfold q_Ref_reckoned_cd; exact ((if_neg c_1).trans ((if_neg c_2).trans ((if_pos c_3).trans rfl)))]) rfl d_Ref_reckoned_99
  by_cases c_4 : a0 = (3 : Int32)
  · refine lv_tableIn (tgt := 100) hx hb d_Ref_reckoned_11 (by rw [c_4]; decide) (by rw [c_4]; decide) (by rw [c_4]; rfl) (by decide) ?_
    refine lv_lload_n hx hb d_Ref_reckoned_100 rfl (lv_at hl 4 rfl) ?_
    refine lv_lload hx hb d_Ref_reckoned_101 (lv_at hl 5 rfl) ?_
    refine lv_ladd hx hb d_Ref_reckoned_103 ?_
    exact rr_l hq hr hk  hP hS (by unfold q_Ref_reckoned; exact (((if_neg c_1).trans ((if_neg c_2).trans ((if_neg c_3).trans ((if_pos c_4).trans rfl))))).symm) (by rw [show q_Ref_reckoned_cd cd a0 a1 a2 a3 = cd from by unfold q_Ref_reckoned_cd; exact ((if_neg c_1).trans ((if_neg c_2).trans ((if_neg c_3).trans ((if_pos c_4).trans rfl))))]) rfl d_Ref_reckoned_104
  by_cases c_5 : a0 = (4 : Int32)
  · refine lv_tableIn (tgt := 105) hx hb d_Ref_reckoned_11 (by rw [c_5]; decide) (by rw [c_5]; decide) (by rw [c_5]; rfl) (by decide) ?_
    refine lv_lload_n hx hb d_Ref_reckoned_105 rfl (lv_at hl 4 rfl) ?_
    refine lv_lload hx hb d_Ref_reckoned_106 (lv_at hl 5 rfl) ?_
    refine lv_lsub hx hb d_Ref_reckoned_108 ?_
    exact rr_l hq hr hk  hP hS (by unfold q_Ref_reckoned; exact (((if_neg c_1).trans ((if_neg c_2).trans ((if_neg c_3).trans ((if_neg c_4).trans ((if_pos c_5).trans rfl)))))).symm) (by rw [show q_Ref_reckoned_cd cd a0 a1 a2 a3 = cd from by unfold q_Ref_reckoned_cd; exact ((if_neg c_1).trans ((if_neg c_2).trans ((if_neg c_3).trans ((if_neg c_4).trans ((if_pos c_5).trans rfl)))))]) rfl d_Ref_reckoned_109
  by_cases c_6 : a0 = (5 : Int32)
  · refine lv_tableIn (tgt := 110) hx hb d_Ref_reckoned_11 (by rw [c_6]; decide) (by rw [c_6]; decide) (by rw [c_6]; rfl) (by decide) ?_
    refine lv_lload_n hx hb d_Ref_reckoned_110 rfl (lv_at hl 4 rfl) ?_
    refine lv_lload hx hb d_Ref_reckoned_111 (lv_at hl 5 rfl) ?_
    refine lv_lmul hx hb d_Ref_reckoned_113 ?_
    exact rr_l hq hr hk  hP hS (by unfold q_Ref_reckoned; exact (((if_neg c_1).trans ((if_neg c_2).trans ((if_neg c_3).trans ((if_neg c_4).trans ((if_neg c_5).trans ((if_pos c_6).trans rfl))))))).symm) (by rw [show q_Ref_reckoned_cd cd a0 a1 a2 a3 = cd from by unfold q_Ref_reckoned_cd; exact ((if_neg c_1).trans ((if_neg c_2).trans ((if_neg c_3).trans ((if_neg c_4).trans ((if_neg c_5).trans ((if_pos c_6).trans rfl))))))]) rfl d_Ref_reckoned_114
  by_cases c_7 : a0 = (6 : Int32)
  · refine lv_tableIn (tgt := 115) hx hb d_Ref_reckoned_11 (by rw [c_7]; decide) (by rw [c_7]; decide) (by rw [c_7]; rfl) (by decide) ?_
    refine lv_aload_n hx hb d_Ref_reckoned_115 rfl (lv_at hl 1 rfl) ?_
    refine lv_iload_n hx hb d_Ref_reckoned_116 rfl (lv_at hl 2 rfl) ?_
    refine lv_iload_n hx hb d_Ref_reckoned_117 rfl (lv_at hl 3 rfl) ?_
    refine lv_lload_n hx hb d_Ref_reckoned_118 rfl (lv_at hl 4 rfl) ?_
    refine lv_lload hx hb d_Ref_reckoned_119 (lv_at hl 5 rfl) ?_
    refine rv_l (As := [.int a0, .int a1, .long a2, .long a3]) (rest := []) hq hA hP hS (c_Ref_byDivision l A ad D cB cJ o r hne hA cd la lo hi re wi fr bi mi am we f a0 a1 a2 a3) kB_Ref_byDivision wt_690 ⟨rfl, rfl, Nat.le_of_ble_eq_true rfl, Nat.le_of_ble_eq_true rfl⟩ rfl hl.1 rfl (Nat.le_of_ble_eq_true rfl) d_Ref_reckoned_121 ⟨Nat.zero_le _, Nat.zero_le _⟩ (fun H locs hP hS => ?_)
    exact rr_l hq hr hk  hP hS (by unfold q_Ref_reckoned; exact (((if_neg c_1).trans ((if_neg c_2).trans ((if_neg c_3).trans ((if_neg c_4).trans ((if_neg c_5).trans ((if_neg c_6).trans ((if_pos c_7).trans rfl)))))))).symm) (by rw [show q_Ref_reckoned_cd cd a0 a1 a2 a3 = (q_Ref_byDivision_cd cd a0 a1 a2 a3) from by unfold q_Ref_reckoned_cd; exact ((if_neg c_1).trans ((if_neg c_2).trans ((if_neg c_3).trans ((if_neg c_4).trans ((if_neg c_5).trans ((if_neg c_6).trans ((if_pos c_7).trans rfl)))))))]) rfl d_Ref_reckoned_124
  by_cases c_8 : a0 = (7 : Int32)
  · refine lv_tableIn (tgt := 115) hx hb d_Ref_reckoned_11 (by rw [c_8]; decide) (by rw [c_8]; decide) (by rw [c_8]; rfl) (by decide) ?_
    refine lv_aload_n hx hb d_Ref_reckoned_115 rfl (lv_at hl 1 rfl) ?_
    refine lv_iload_n hx hb d_Ref_reckoned_116 rfl (lv_at hl 2 rfl) ?_
    refine lv_iload_n hx hb d_Ref_reckoned_117 rfl (lv_at hl 3 rfl) ?_
    refine lv_lload_n hx hb d_Ref_reckoned_118 rfl (lv_at hl 4 rfl) ?_
    refine lv_lload hx hb d_Ref_reckoned_119 (lv_at hl 5 rfl) ?_
    refine rv_l (As := [.int a0, .int a1, .long a2, .long a3]) (rest := []) hq hA hP hS (c_Ref_byDivision l A ad D cB cJ o r hne hA cd la lo hi re wi fr bi mi am we f a0 a1 a2 a3) kB_Ref_byDivision wt_690 ⟨rfl, rfl, Nat.le_of_ble_eq_true rfl, Nat.le_of_ble_eq_true rfl⟩ rfl hl.1 rfl (Nat.le_of_ble_eq_true rfl) d_Ref_reckoned_121 ⟨Nat.zero_le _, Nat.zero_le _⟩ (fun H locs hP hS => ?_)
    exact rr_l hq hr hk  hP hS (by unfold q_Ref_reckoned; exact (((if_neg c_1).trans ((if_neg c_2).trans ((if_neg c_3).trans ((if_neg c_4).trans ((if_neg c_5).trans ((if_neg c_6).trans ((if_neg c_7).trans ((if_pos c_8).trans rfl))))))))).symm) (by rw [show q_Ref_reckoned_cd cd a0 a1 a2 a3 = (q_Ref_byDivision_cd cd a0 a1 a2 a3) from by unfold q_Ref_reckoned_cd; exact ((if_neg c_1).trans ((if_neg c_2).trans ((if_neg c_3).trans ((if_neg c_4).trans ((if_neg c_5).trans ((if_neg c_6).trans ((if_neg c_7).trans ((if_pos c_8).trans rfl))))))))]) rfl d_Ref_reckoned_124
  by_cases c_9 : a0 = (8 : Int32)
  · refine lv_tableIn (tgt := 115) hx hb d_Ref_reckoned_11 (by rw [c_9]; decide) (by rw [c_9]; decide) (by rw [c_9]; rfl) (by decide) ?_
    refine lv_aload_n hx hb d_Ref_reckoned_115 rfl (lv_at hl 1 rfl) ?_
    refine lv_iload_n hx hb d_Ref_reckoned_116 rfl (lv_at hl 2 rfl) ?_
    refine lv_iload_n hx hb d_Ref_reckoned_117 rfl (lv_at hl 3 rfl) ?_
    refine lv_lload_n hx hb d_Ref_reckoned_118 rfl (lv_at hl 4 rfl) ?_
    refine lv_lload hx hb d_Ref_reckoned_119 (lv_at hl 5 rfl) ?_
    refine rv_l (As := [.int a0, .int a1, .long a2, .long a3]) (rest := []) hq hA hP hS (c_Ref_byDivision l A ad D cB cJ o r hne hA cd la lo hi re wi fr bi mi am we f a0 a1 a2 a3) kB_Ref_byDivision wt_690 ⟨rfl, rfl, Nat.le_of_ble_eq_true rfl, Nat.le_of_ble_eq_true rfl⟩ rfl hl.1 rfl (Nat.le_of_ble_eq_true rfl) d_Ref_reckoned_121 ⟨Nat.zero_le _, Nat.zero_le _⟩ (fun H locs hP hS => ?_)
    exact rr_l hq hr hk  hP hS (by unfold q_Ref_reckoned; exact (((if_neg c_1).trans ((if_neg c_2).trans ((if_neg c_3).trans ((if_neg c_4).trans ((if_neg c_5).trans ((if_neg c_6).trans ((if_neg c_7).trans ((if_neg c_8).trans ((if_pos c_9).trans rfl)))))))))).symm) (by rw [show q_Ref_reckoned_cd cd a0 a1 a2 a3 = (q_Ref_byDivision_cd cd a0 a1 a2 a3) from by unfold q_Ref_reckoned_cd; exact ((if_neg c_1).trans ((if_neg c_2).trans ((if_neg c_3).trans ((if_neg c_4).trans ((if_neg c_5).trans ((if_neg c_6).trans ((if_neg c_7).trans ((if_neg c_8).trans ((if_pos c_9).trans rfl)))))))))]) rfl d_Ref_reckoned_124
  by_cases c_10 : a0 = (9 : Int32)
  · refine lv_tableIn (tgt := 115) hx hb d_Ref_reckoned_11 (by rw [c_10]; decide) (by rw [c_10]; decide) (by rw [c_10]; rfl) (by decide) ?_
    refine lv_aload_n hx hb d_Ref_reckoned_115 rfl (lv_at hl 1 rfl) ?_
    refine lv_iload_n hx hb d_Ref_reckoned_116 rfl (lv_at hl 2 rfl) ?_
    refine lv_iload_n hx hb d_Ref_reckoned_117 rfl (lv_at hl 3 rfl) ?_
    refine lv_lload_n hx hb d_Ref_reckoned_118 rfl (lv_at hl 4 rfl) ?_
    refine lv_lload hx hb d_Ref_reckoned_119 (lv_at hl 5 rfl) ?_
    refine rv_l (As := [.int a0, .int a1, .long a2, .long a3]) (rest := []) hq hA hP hS (c_Ref_byDivision l A ad D cB cJ o r hne hA cd la lo hi re wi fr bi mi am we f a0 a1 a2 a3) kB_Ref_byDivision wt_690 ⟨rfl, rfl, Nat.le_of_ble_eq_true rfl, Nat.le_of_ble_eq_true rfl⟩ rfl hl.1 rfl (Nat.le_of_ble_eq_true rfl) d_Ref_reckoned_121 ⟨Nat.zero_le _, Nat.zero_le _⟩ (fun H locs hP hS => ?_)
    exact rr_l hq hr hk  hP hS (by unfold q_Ref_reckoned; exact (((if_neg c_1).trans ((if_neg c_2).trans ((if_neg c_3).trans ((if_neg c_4).trans ((if_neg c_5).trans ((if_neg c_6).trans ((if_neg c_7).trans ((if_neg c_8).trans ((if_neg c_9).trans ((if_pos c_10).trans rfl))))))))))).symm) (by rw [show q_Ref_reckoned_cd cd a0 a1 a2 a3 = (q_Ref_byDivision_cd cd a0 a1 a2 a3) from by unfold q_Ref_reckoned_cd; exact ((if_neg c_1).trans ((if_neg c_2).trans ((if_neg c_3).trans ((if_neg c_4).trans ((if_neg c_5).trans ((if_neg c_6).trans ((if_neg c_7).trans ((if_neg c_8).trans ((if_neg c_9).trans ((if_pos c_10).trans rfl))))))))))]) rfl d_Ref_reckoned_124
  by_cases c_11 : a0 = (10 : Int32)
  · refine lv_tableIn (tgt := 125) hx hb d_Ref_reckoned_11 (by rw [c_11]; decide) (by rw [c_11]; decide) (by rw [c_11]; rfl) (by decide) ?_
    refine lv_lload_n hx hb d_Ref_reckoned_125 rfl (lv_at hl 4 rfl) ?_
    refine lv_lload hx hb d_Ref_reckoned_126 (lv_at hl 5 rfl) ?_
    refine lv_land hx hb d_Ref_reckoned_128 ?_
    exact rr_l hq hr hk  hP hS (by unfold q_Ref_reckoned; exact (((if_neg c_1).trans ((if_neg c_2).trans ((if_neg c_3).trans ((if_neg c_4).trans ((if_neg c_5).trans ((if_neg c_6).trans ((if_neg c_7).trans ((if_neg c_8).trans ((if_neg c_9).trans ((if_neg c_10).trans ((if_pos c_11).trans rfl)))))))))))).symm) (by rw [show q_Ref_reckoned_cd cd a0 a1 a2 a3 = cd from by unfold q_Ref_reckoned_cd; exact ((if_neg c_1).trans ((if_neg c_2).trans ((if_neg c_3).trans ((if_neg c_4).trans ((if_neg c_5).trans ((if_neg c_6).trans ((if_neg c_7).trans ((if_neg c_8).trans ((if_neg c_9).trans ((if_neg c_10).trans ((if_pos c_11).trans rfl)))))))))))]) rfl d_Ref_reckoned_129
  by_cases c_12 : a0 = (11 : Int32)
  · refine lv_tableIn (tgt := 130) hx hb d_Ref_reckoned_11 (by rw [c_12]; decide) (by rw [c_12]; decide) (by rw [c_12]; rfl) (by decide) ?_
    refine lv_lload_n hx hb d_Ref_reckoned_130 rfl (lv_at hl 4 rfl) ?_
    refine lv_lload hx hb d_Ref_reckoned_131 (lv_at hl 5 rfl) ?_
    refine lv_lor hx hb d_Ref_reckoned_133 ?_
    exact rr_l hq hr hk  hP hS (by unfold q_Ref_reckoned; exact (((if_neg c_1).trans ((if_neg c_2).trans ((if_neg c_3).trans ((if_neg c_4).trans ((if_neg c_5).trans ((if_neg c_6).trans ((if_neg c_7).trans ((if_neg c_8).trans ((if_neg c_9).trans ((if_neg c_10).trans ((if_neg c_11).trans ((if_pos c_12).trans rfl))))))))))))).symm) (by rw [show q_Ref_reckoned_cd cd a0 a1 a2 a3 = cd from by unfold q_Ref_reckoned_cd; exact ((if_neg c_1).trans ((if_neg c_2).trans ((if_neg c_3).trans ((if_neg c_4).trans ((if_neg c_5).trans ((if_neg c_6).trans ((if_neg c_7).trans ((if_neg c_8).trans ((if_neg c_9).trans ((if_neg c_10).trans ((if_neg c_11).trans ((if_pos c_12).trans rfl))))))))))))]) rfl d_Ref_reckoned_134
  by_cases c_13 : a0 = (12 : Int32)
  · refine lv_tableIn (tgt := 135) hx hb d_Ref_reckoned_11 (by rw [c_13]; decide) (by rw [c_13]; decide) (by rw [c_13]; rfl) (by decide) ?_
    refine lv_lload_n hx hb d_Ref_reckoned_135 rfl (lv_at hl 4 rfl) ?_
    refine lv_lload hx hb d_Ref_reckoned_136 (lv_at hl 5 rfl) ?_
    refine lv_lxor hx hb d_Ref_reckoned_138 ?_
    exact rr_l hq hr hk  hP hS (by unfold q_Ref_reckoned; exact (((if_neg c_1).trans ((if_neg c_2).trans ((if_neg c_3).trans ((if_neg c_4).trans ((if_neg c_5).trans ((if_neg c_6).trans ((if_neg c_7).trans ((if_neg c_8).trans ((if_neg c_9).trans ((if_neg c_10).trans ((if_neg c_11).trans ((if_neg c_12).trans ((if_pos c_13).trans rfl)))))))))))))).symm) (by rw [show q_Ref_reckoned_cd cd a0 a1 a2 a3 = cd from by unfold q_Ref_reckoned_cd; exact ((if_neg c_1).trans ((if_neg c_2).trans ((if_neg c_3).trans ((if_neg c_4).trans ((if_neg c_5).trans ((if_neg c_6).trans ((if_neg c_7).trans ((if_neg c_8).trans ((if_neg c_9).trans ((if_neg c_10).trans ((if_neg c_11).trans ((if_neg c_12).trans ((if_pos c_13).trans rfl)))))))))))))]) rfl d_Ref_reckoned_139
  by_cases c_14 : a0 = (13 : Int32)
  · refine lv_tableIn (tgt := 140) hx hb d_Ref_reckoned_11 (by rw [c_14]; decide) (by rw [c_14]; decide) (by rw [c_14]; rfl) (by decide) ?_
    refine lv_iload_n hx hb d_Ref_reckoned_140 rfl (lv_at hl 2 rfl) ?_
    refine lv_iload_n hx hb d_Ref_reckoned_141 rfl (lv_at hl 3 rfl) ?_
    refine lv_lload_n hx hb d_Ref_reckoned_142 rfl (lv_at hl 4 rfl) ?_
    refine lv_iload hx hb d_Ref_reckoned_143 (lv_at hl 0 rfl) ?_
    refine hl_ (As := [.int a0, .int a1, .long a2, .int (Int64.toInt32 (a3 &&& (Int32.toInt64 (a1 - (1 : Int32)))))]) (rest := []) hq hA hS (c_Ref_moved l A ad a0 a1 a2 (Int64.toInt32 (a3 &&& (Int32.toInt64 (a1 - (1 : Int32))))) (rk_n hw _)) kB_Ref_moved wt_697 ⟨rfl, rfl, Nat.le_of_ble_eq_true rfl, Nat.le_of_ble_eq_true rfl⟩ rfl hl.1 rfl (Nat.le_of_ble_eq_true rfl) d_Ref_reckoned_145 ⟨Nat.zero_le _, Nat.zero_le _⟩ ?_
    exact rr_l hq hr hk  hP hS (by unfold q_Ref_reckoned; exact (((if_neg c_1).trans ((if_neg c_2).trans ((if_neg c_3).trans ((if_neg c_4).trans ((if_neg c_5).trans ((if_neg c_6).trans ((if_neg c_7).trans ((if_neg c_8).trans ((if_neg c_9).trans ((if_neg c_10).trans ((if_neg c_11).trans ((if_neg c_12).trans ((if_neg c_13).trans ((if_pos c_14).trans rfl))))))))))))))).symm) (by rw [show q_Ref_reckoned_cd cd a0 a1 a2 a3 = cd from by unfold q_Ref_reckoned_cd; exact ((if_neg c_1).trans ((if_neg c_2).trans ((if_neg c_3).trans ((if_neg c_4).trans ((if_neg c_5).trans ((if_neg c_6).trans ((if_neg c_7).trans ((if_neg c_8).trans ((if_neg c_9).trans ((if_neg c_10).trans ((if_neg c_11).trans ((if_neg c_12).trans ((if_neg c_13).trans ((if_pos c_14).trans rfl))))))))))))))]) rfl d_Ref_reckoned_148
  by_cases c_15 : a0 = (14 : Int32)
  · refine lv_tableIn (tgt := 140) hx hb d_Ref_reckoned_11 (by rw [c_15]; decide) (by rw [c_15]; decide) (by rw [c_15]; rfl) (by decide) ?_
    refine lv_iload_n hx hb d_Ref_reckoned_140 rfl (lv_at hl 2 rfl) ?_
    refine lv_iload_n hx hb d_Ref_reckoned_141 rfl (lv_at hl 3 rfl) ?_
    refine lv_lload_n hx hb d_Ref_reckoned_142 rfl (lv_at hl 4 rfl) ?_
    refine lv_iload hx hb d_Ref_reckoned_143 (lv_at hl 0 rfl) ?_
    refine hl_ (As := [.int a0, .int a1, .long a2, .int (Int64.toInt32 (a3 &&& (Int32.toInt64 (a1 - (1 : Int32)))))]) (rest := []) hq hA hS (c_Ref_moved l A ad a0 a1 a2 (Int64.toInt32 (a3 &&& (Int32.toInt64 (a1 - (1 : Int32))))) (rk_n hw _)) kB_Ref_moved wt_697 ⟨rfl, rfl, Nat.le_of_ble_eq_true rfl, Nat.le_of_ble_eq_true rfl⟩ rfl hl.1 rfl (Nat.le_of_ble_eq_true rfl) d_Ref_reckoned_145 ⟨Nat.zero_le _, Nat.zero_le _⟩ ?_
    exact rr_l hq hr hk  hP hS (by unfold q_Ref_reckoned; exact (((if_neg c_1).trans ((if_neg c_2).trans ((if_neg c_3).trans ((if_neg c_4).trans ((if_neg c_5).trans ((if_neg c_6).trans ((if_neg c_7).trans ((if_neg c_8).trans ((if_neg c_9).trans ((if_neg c_10).trans ((if_neg c_11).trans ((if_neg c_12).trans ((if_neg c_13).trans ((if_neg c_14).trans ((if_pos c_15).trans rfl)))))))))))))))).symm) (by rw [show q_Ref_reckoned_cd cd a0 a1 a2 a3 = cd from by unfold q_Ref_reckoned_cd; exact ((if_neg c_1).trans ((if_neg c_2).trans ((if_neg c_3).trans ((if_neg c_4).trans ((if_neg c_5).trans ((if_neg c_6).trans ((if_neg c_7).trans ((if_neg c_8).trans ((if_neg c_9).trans ((if_neg c_10).trans ((if_neg c_11).trans ((if_neg c_12).trans ((if_neg c_13).trans ((if_neg c_14).trans ((if_pos c_15).trans rfl)))))))))))))))]) rfl d_Ref_reckoned_148
  by_cases c_16 : a0 = (15 : Int32)
  · refine lv_tableIn (tgt := 140) hx hb d_Ref_reckoned_11 (by rw [c_16]; decide) (by rw [c_16]; decide) (by rw [c_16]; rfl) (by decide) ?_
    refine lv_iload_n hx hb d_Ref_reckoned_140 rfl (lv_at hl 2 rfl) ?_
    refine lv_iload_n hx hb d_Ref_reckoned_141 rfl (lv_at hl 3 rfl) ?_
    refine lv_lload_n hx hb d_Ref_reckoned_142 rfl (lv_at hl 4 rfl) ?_
    refine lv_iload hx hb d_Ref_reckoned_143 (lv_at hl 0 rfl) ?_
    refine hl_ (As := [.int a0, .int a1, .long a2, .int (Int64.toInt32 (a3 &&& (Int32.toInt64 (a1 - (1 : Int32)))))]) (rest := []) hq hA hS (c_Ref_moved l A ad a0 a1 a2 (Int64.toInt32 (a3 &&& (Int32.toInt64 (a1 - (1 : Int32))))) (rk_n hw _)) kB_Ref_moved wt_697 ⟨rfl, rfl, Nat.le_of_ble_eq_true rfl, Nat.le_of_ble_eq_true rfl⟩ rfl hl.1 rfl (Nat.le_of_ble_eq_true rfl) d_Ref_reckoned_145 ⟨Nat.zero_le _, Nat.zero_le _⟩ ?_
    exact rr_l hq hr hk  hP hS (by unfold q_Ref_reckoned; exact (((if_neg c_1).trans ((if_neg c_2).trans ((if_neg c_3).trans ((if_neg c_4).trans ((if_neg c_5).trans ((if_neg c_6).trans ((if_neg c_7).trans ((if_neg c_8).trans ((if_neg c_9).trans ((if_neg c_10).trans ((if_neg c_11).trans ((if_neg c_12).trans ((if_neg c_13).trans ((if_neg c_14).trans ((if_neg c_15).trans ((if_pos c_16).trans rfl))))))))))))))))).symm) (by rw [show q_Ref_reckoned_cd cd a0 a1 a2 a3 = cd from by unfold q_Ref_reckoned_cd; exact ((if_neg c_1).trans ((if_neg c_2).trans ((if_neg c_3).trans ((if_neg c_4).trans ((if_neg c_5).trans ((if_neg c_6).trans ((if_neg c_7).trans ((if_neg c_8).trans ((if_neg c_9).trans ((if_neg c_10).trans ((if_neg c_11).trans ((if_neg c_12).trans ((if_neg c_13).trans ((if_neg c_14).trans ((if_neg c_15).trans ((if_pos c_16).trans rfl))))))))))))))))]) rfl d_Ref_reckoned_148
  by_cases c_17 : a0 = (16 : Int32)
  · refine lv_tableIn (tgt := 149) hx hb d_Ref_reckoned_11 (by rw [c_17]; decide) (by rw [c_17]; decide) (by rw [c_17]; rfl) (by decide) ?_
    refine lv_lload_n hx hb d_Ref_reckoned_149 rfl (lv_at hl 4 rfl) ?_
    refine lv_iload_n hx hb d_Ref_reckoned_150 rfl (lv_at hl 3 rfl) ?_
    refine lv_iload hx hb d_Ref_reckoned_151 (lv_at hl 0 rfl) ?_
    refine hl_ (As := [.long a2, .int a1, .int (Int64.toInt32 (a3 &&& (Int32.toInt64 (a1 - (1 : Int32)))))]) (rest := []) hq hA hS (c_Ref_turned l A ad a2 a1 (Int64.toInt32 (a3 &&& (Int32.toInt64 (a1 - (1 : Int32))))) (rk_n hw _)) kB_Ref_turned wt_700 ⟨rfl, rfl, Nat.le_of_ble_eq_true rfl, Nat.le_of_ble_eq_true rfl⟩ rfl hl.1 rfl (Nat.le_of_ble_eq_true rfl) d_Ref_reckoned_153 ⟨Nat.zero_le _, Nat.zero_le _⟩ ?_
    exact rr_l hq hr hk  hP hS (by unfold q_Ref_reckoned; exact (((if_neg c_1).trans ((if_neg c_2).trans ((if_neg c_3).trans ((if_neg c_4).trans ((if_neg c_5).trans ((if_neg c_6).trans ((if_neg c_7).trans ((if_neg c_8).trans ((if_neg c_9).trans ((if_neg c_10).trans ((if_neg c_11).trans ((if_neg c_12).trans ((if_neg c_13).trans ((if_neg c_14).trans ((if_neg c_15).trans ((if_neg c_16).trans ((if_pos c_17).trans rfl)))))))))))))))))).symm) (by rw [show q_Ref_reckoned_cd cd a0 a1 a2 a3 = cd from by unfold q_Ref_reckoned_cd; exact ((if_neg c_1).trans ((if_neg c_2).trans ((if_neg c_3).trans ((if_neg c_4).trans ((if_neg c_5).trans ((if_neg c_6).trans ((if_neg c_7).trans ((if_neg c_8).trans ((if_neg c_9).trans ((if_neg c_10).trans ((if_neg c_11).trans ((if_neg c_12).trans ((if_neg c_13).trans ((if_neg c_14).trans ((if_neg c_15).trans ((if_neg c_16).trans ((if_pos c_17).trans rfl)))))))))))))))))]) rfl d_Ref_reckoned_156
  have hsw : a0.toInt < 0 ∨ 16 < a0.toInt := by
    have := lv_neT c_1 (a := 0) (by decide)
    have := lv_neT c_2 (a := 1) (by decide)
    have := lv_neT c_3 (a := 2) (by decide)
    have := lv_neT c_4 (a := 3) (by decide)
    have := lv_neT c_5 (a := 4) (by decide)
    have := lv_neT c_6 (a := 5) (by decide)
    have := lv_neT c_7 (a := 6) (by decide)
    have := lv_neT c_8 (a := 7) (by decide)
    have := lv_neT c_9 (a := 8) (by decide)
    have := lv_neT c_10 (a := 9) (by decide)
    have := lv_neT c_11 (a := 10) (by decide)
    have := lv_neT c_12 (a := 11) (by decide)
    have := lv_neT c_13 (a := 12) (by decide)
    have := lv_neT c_14 (a := 13) (by decide)
    have := lv_neT c_15 (a := 14) (by decide)
    have := lv_neT c_16 (a := 15) (by decide)
    have := lv_neT c_17 (a := 16) (by decide)
    omega
  refine lv_tableOut (tgt := 157) hx hb d_Ref_reckoned_11 hsw (by decide) ?_
  refine lv_lload_n hx hb d_Ref_reckoned_157 rfl (lv_at hl 4 rfl) ?_
  refine lv_iload_n hx hb d_Ref_reckoned_158 rfl (lv_at hl 3 rfl) ?_
  refine lv_iload_n hx hb d_Ref_reckoned_159 rfl (lv_at hl 3 rfl) ?_
  refine lv_iload hx hb d_Ref_reckoned_160 (lv_at hl 0 rfl) ?_
  refine lv_isub hx hb d_Ref_reckoned_162 ?_
  refine lv_iload_n hx hb d_Ref_reckoned_163 rfl (lv_at hl 3 rfl) ?_
  refine lv_irem hx hb d_Ref_reckoned_164 hz ?_
  refine hl_ (As := [.long a2, .int a1, .int ((a1 - (Int64.toInt32 (a3 &&& (Int32.toInt64 (a1 - (1 : Int32)))))) - (a1 - (Int64.toInt32 (a3 &&& (Int32.toInt64 (a1 - (1 : Int32)))))) / a1 * a1)]) (rest := []) hq hA hS (c_Ref_turned l A ad a2 a1 ((a1 - (Int64.toInt32 (a3 &&& (Int32.toInt64 (a1 - (1 : Int32)))))) - (a1 - (Int64.toInt32 (a3 &&& (Int32.toInt64 (a1 - (1 : Int32)))))) / a1 * a1) (rk_t hw _)) kB_Ref_turned wt_700 ⟨rfl, rfl, Nat.le_of_ble_eq_true rfl, Nat.le_of_ble_eq_true rfl⟩ rfl hl.1 rfl (Nat.le_of_ble_eq_true rfl) d_Ref_reckoned_165 ⟨Nat.zero_le _, Nat.zero_le _⟩ ?_
  exact rr_l hq hr hk  hP hS (by unfold q_Ref_reckoned; exact (((if_neg c_1).trans ((if_neg c_2).trans ((if_neg c_3).trans ((if_neg c_4).trans ((if_neg c_5).trans ((if_neg c_6).trans ((if_neg c_7).trans ((if_neg c_8).trans ((if_neg c_9).trans ((if_neg c_10).trans ((if_neg c_11).trans ((if_neg c_12).trans ((if_neg c_13).trans ((if_neg c_14).trans ((if_neg c_15).trans ((if_neg c_16).trans ((if_neg c_17).trans rfl)))))))))))))))))).symm) (by rw [show q_Ref_reckoned_cd cd a0 a1 a2 a3 = cd from by unfold q_Ref_reckoned_cd; exact ((if_neg c_1).trans ((if_neg c_2).trans ((if_neg c_3).trans ((if_neg c_4).trans ((if_neg c_5).trans ((if_neg c_6).trans ((if_neg c_7).trans ((if_neg c_8).trans ((if_neg c_9).trans ((if_neg c_10).trans ((if_neg c_11).trans ((if_neg c_12).trans ((if_neg c_13).trans ((if_neg c_14).trans ((if_neg c_15).trans ((if_neg c_16).trans ((if_neg c_17).trans rfl)))))))))))))))))]) rfl d_Ref_reckoned_168
