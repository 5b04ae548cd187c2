def q_Ref_thrown (cd : Int32)  : Int32 :=
  cd
theorem kB_Ref_thrown : RB y_Ref_thrown b_Ref_thrown 1 (some .int) 0 := ⟨wt_524, wt_522, wt_523, wt_36, by decide +kernel⟩
set_option maxHeartbeats 4000000 in
set_option maxRecDepth 100000 in
theorem c_Ref_thrown (l : Launch) (A : Nat → Prop) (ad : Nat → Nat) (D : va_G) (cB cJ : ClassId) (o r : Nat) (hne : o ≠ r) (hA : ∀ q, rA o r q → A q) (cd : Int32) (la : Int64) (lo : Int32) (hi : Int32) (re : Int32) (wi : Int32) (fr : Int32) (bi : Int32) (mi : Int32) (am : Int64) (we : Int32) (f : Nat → Int32)  : Met l y_Ref_thrown (Cond.code y_Ref_thrown b_Ref_thrown 1 (some .int) :: BT) ({ frames := 0, cells := 0, slots := 0, locals := 0 }) (PR A ad D cB cJ o r (rf_ cd la r lo hi re wi fr bi mi am we) f []) (QRi D cB o r (q_Ref_thrown cd ) (rf_ cd la r lo hi re wi fr bi mi am we) f) 0 0 (rA o r) := by
  refine pr_ (by decide) (Nat.le_of_ble_eq_true rfl) ?_
  intro p e s m below meth c hq hP hS hr hk ls hl
  have hx := hq.1
  have hb := hq.2.1
  have hts := hq.2.2.2.2.1
  have hl : lv_has ls 1 [(0, .ref o)] := hl
  refine lv_aload_n hx hb d_Ref_thrown_0 rfl (lv_at hl 0 rfl) ?_
  refine rg_ 0 hq hP (by decide) wt_484 rfl rfl d_Ref_thrown_1 ?_
  exact rr_i hq hr hk  hP hS (by unfold q_Ref_thrown; exact (rfl).symm) rfl rfl d_Ref_thrown_4
def q_Ref_latest (la : Int64)  : Int64 :=
  la
def q_Ref_latest_cd (la : Int64)  : Int32 :=
  (0 : Int32)
theorem kB_Ref_latest : RB y_Ref_latest b_Ref_latest 1 (some .long) 0 := ⟨wt_528, wt_526, wt_527, wt_36, by decide +kernel⟩
set_option maxHeartbeats 4000000 in
set_option maxRecDepth 100000 in
theorem c_Ref_latest (l : Launch) (A : Nat → Prop) (ad : Nat → Nat) (D : va_G) (cB cJ : ClassId) (o r : Nat) (hne : o ≠ r) (hA : ∀ q, rA o r q → A q) (cd : Int32) (la : Int64) (lo : Int32) (hi : Int32) (re : Int32) (wi : Int32) (fr : Int32) (bi : Int32) (mi : Int32) (am : Int64) (we : Int32) (f : Nat → Int32)  : Met l y_Ref_latest (Cond.code y_Ref_latest b_Ref_latest 1 (some .long) :: BT) ({ frames := 0, cells := 0, slots := 0, locals := 0 }) (PR A ad D cB cJ o r (rf_ cd la r lo hi re wi fr bi mi am we) f []) (QRl D cB o r (q_Ref_latest la ) (rf_ (q_Ref_latest_cd la ) la r lo hi re wi fr bi mi am we) f) 0 0 (rA o r) := by
  refine pr_ (by decide) (Nat.le_of_ble_eq_true rfl) ?_
  intro p e s m below meth c hq hP hS hr hk ls hl
  have hx := hq.1
  have hb := hq.2.1
  have hts := hq.2.2.2.2.1
  have hl : lv_has ls 1 [(0, .ref o)] := hl
  refine lv_aload_n hx hb d_Ref_latest_0 rfl (lv_at hl 0 rfl) ?_
  refine lv_iconst (v := (0 : Int32)) hx hb d_Ref_latest_1 (by decide) ?_
  refine rp_ 0 (ty := tR 0) hq hne hP hS (by decide) wt_484 rfl rfl rfl rfl rfl (Nat.le_of_ble_eq_true rfl) d_Ref_latest_2 (fun H locs hP hS => ?_)
  have hP : va_P D clR (rw_ o r cB (rf_ (0 : Int32) la r lo hi re wi fr bi mi am we) f) H := hP
  refine lv_aload_n hx hb d_Ref_latest_5 rfl (lv_at hl 0 rfl) ?_
  refine rg_ 1 hq hP (by decide) wt_485 rfl rfl d_Ref_latest_6 ?_
  exact rr_l hq hr hk  hP hS (by unfold q_Ref_latest; exact (rfl).symm) (by rw [show q_Ref_latest_cd la  = (0 : Int32) from by unfold q_Ref_latest_cd; exact rfl]) rfl d_Ref_latest_9
def q_Ref_kind  (a0 : Int32) (a1 : Int32) : Int32 :=
  if (q_Ref_isIn a0 (69 : Int32) (191 : Int32)) = 0 then
    (-1 : Int32)
  else
    (if a1 = 0 then (q_Ref_result a0) else (if a1 = (1 : Int32) then (q_Ref_first a0) else (if a1 = (2 : Int32) then (q_Ref_second a0) else (-1 : Int32))))
def q_Ref_kind_cd  (a0 : Int32) (a1 : Int32) : Int32 :=
  if (q_Ref_isIn a0 (69 : Int32) (191 : Int32)) = 0 then
    (0 : Int32)
  else
    (0 : Int32)
theorem kB_Ref_kind : RB y_Ref_kind b_Ref_kind 3 (some .int) 2 := ⟨wt_532, wt_530, wt_531, wt_36, by decide +kernel⟩
set_option maxHeartbeats 4000000 in
set_option maxRecDepth 100000 in
theorem c_Ref_kind (l : Launch) (A : Nat → Prop) (ad : Nat → Nat) (D : va_G) (cB cJ : ClassId) (o r : Nat) (hne : o ≠ r) (hA : ∀ q, rA o r q → A q) (cd : Int32) (la : Int64) (lo : Int32) (hi : Int32) (re : Int32) (wi : Int32) (fr : Int32) (bi : Int32) (mi : Int32) (am : Int64) (we : Int32) (f : Nat → Int32) (a0 : Int32) (a1 : Int32) : Met l y_Ref_kind (Cond.code y_Ref_kind b_Ref_kind 3 (some .int) :: BT) ({ frames := 3, cells := 0, slots := 0, locals := 61 }) (PR A ad D cB cJ o r (rf_ cd la r lo hi re wi fr bi mi am we) f [.int a0, .int a1]) (QRi D cB o r (q_Ref_kind  a0 a1) (rf_ (q_Ref_kind_cd  a0 a1) la r lo hi re wi fr bi mi am we) f) 0 0 (rA o r) := by
  refine pr_ (by decide) (Nat.le_of_ble_eq_true rfl) ?_
  intro p e s m below meth c hq hP hS hr hk ls hl
  have hx := hq.1
  have hb := hq.2.1
  have hts := hq.2.2.2.2.1
  have hl : lv_has ls 3 [(0, .ref o), (1, .int a0), (2, .int a1)] := hl
  refine lv_aload_n hx hb d_Ref_kind_0 rfl (lv_at hl 0 rfl) ?_
  refine lv_iconst (v := (0 : Int32)) hx hb d_Ref_kind_1 (by decide) ?_
  refine rp_ 0 (ty := tR 0) hq hne hP hS (by decide) wt_484 rfl rfl rfl rfl rfl (Nat.le_of_ble_eq_true rfl) d_Ref_kind_2 (fun H locs hP hS => ?_)
  have hP : va_P D clR (rw_ o r cB (rf_ (0 : Int32) la r lo hi re wi fr bi mi am we) f) H := hP
  refine lv_iload_n hx hb d_Ref_kind_5 rfl (lv_at hl 1 rfl) ?_
  refine lv_bipush (v := (69 : Int32)) hx hb d_Ref_kind_6 (by decide) ?_
  refine lv_sipush (v := (191 : Int32)) hx hb d_Ref_kind_8 (by decide) ?_
  refine hi_ (As := [.int a0, .int (69 : Int32), .int (191 : Int32)]) (rest := []) hq hA hS (c_Ref_isIn l A ad a0 (69 : Int32) (191 : Int32)) kB_Ref_isIn wt_533 ⟨rfl, rfl, Nat.le_of_ble_eq_true rfl, Nat.le_of_ble_eq_true rfl⟩ rfl hl.1 rfl (Nat.le_of_ble_eq_true rfl) d_Ref_kind_11 ⟨Nat.zero_le _, Nat.zero_le _⟩ ?_
  refine lv_if_ne (tgt := 19) hx hb d_Ref_kind_14 (by decide) (fun c_1 => ?_) (fun c_1 => ?_)
  · refine lv_iload_n hx hb d_Ref_kind_19 rfl (lv_at hl 2 rfl) ?_
    refine jn_ (J := 55) (ls := ls) (v := .int (if a1 = 0 then (q_Ref_result a0) else (if a1 = (1 : Int32) then (q_Ref_first a0) else (if a1 = (2 : Int32) then (q_Ref_second a0) else (-1 : Int32))))) (rest := []) (fun hj => ?_) ?_
    · refine lv_if_ne (tgt := 30) hx hb d_Ref_kind_20 (by decide) (fun c_2 => ?_) (fun c_2 => ?_)
      · refine lv_iload_n hx hb d_Ref_kind_30 rfl (lv_at hl 2 rfl) ?_
        refine lv_iconst (v := (1 : Int32)) hx hb d_Ref_kind_31 (by decide) ?_
        refine jn_ (J := 55) (ls := ls) (v := .int (if a1 = (1 : Int32) then (q_Ref_first a0) else (if a1 = (2 : Int32) then (q_Ref_second a0) else (-1 : Int32)))) (rest := []) (fun hj => ?_) ?_
        · refine lv_icmp_ne (tgt := 42) hx hb d_Ref_kind_32 (by decide) (fun c_3 => ?_) (fun c_3 => ?_)
          · refine lv_iload_n hx hb d_Ref_kind_42 rfl (lv_at hl 2 rfl) ?_
            refine lv_iconst (v := (2 : Int32)) hx hb d_Ref_kind_43 (by decide) ?_
            refine jn_ (J := 55) (ls := ls) (v := .int (if a1 = (2 : Int32) then (q_Ref_second a0) else (-1 : Int32))) (rest := []) (fun hj => ?_) ?_
            · refine lv_icmp_ne (tgt := 54) hx hb d_Ref_kind_44 (by decide) (fun c_4 => ?_) (fun c_4 => ?_)
              · refine lv_iconst (v := (-1 : Int32)) hx hb d_Ref_kind_54 (by decide) ?_
                exact (by rw [if_neg c_4] at hj; exact hj)
              · refine lv_iload_n hx hb d_Ref_kind_47 rfl (lv_at hl 1 rfl) ?_
                refine hi_ (As := [.int a0]) (rest := []) hq hA hS (c_Ref_second l A ad a0) kB_Ref_second wt_542 ⟨rfl, rfl, Nat.le_of_ble_eq_true rfl, Nat.le_of_ble_eq_true rfl⟩ rfl hl.1 rfl (Nat.le_of_ble_eq_true rfl) d_Ref_kind_48 ⟨Nat.zero_le _, Nat.zero_le _⟩ ?_
                refine lv_goto (tgt := 55) hx hb d_Ref_kind_51 (by decide) ?_
                exact (by rw [if_pos c_4] at hj; exact hj)
            exact (by rw [if_neg c_3] at hj; exact hj)
          · refine lv_iload_n hx hb d_Ref_kind_35 rfl (lv_at hl 1 rfl) ?_
            refine hi_ (As := [.int a0]) (rest := []) hq hA hS (c_Ref_first l A ad a0) kB_Ref_first wt_539 ⟨rfl, rfl, Nat.le_of_ble_eq_true rfl, Nat.le_of_ble_eq_true rfl⟩ rfl hl.1 rfl (Nat.le_of_ble_eq_true rfl) d_Ref_kind_36 ⟨Nat.zero_le _, Nat.zero_le _⟩ ?_
            refine lv_goto (tgt := 55) hx hb d_Ref_kind_39 (by decide) ?_
            exact (by rw [if_pos c_3] at hj; exact hj)
        exact (by rw [if_neg c_2] at hj; exact hj)
      · refine lv_iload_n hx hb d_Ref_kind_23 rfl (lv_at hl 1 rfl) ?_
        refine hi_ (As := [.int a0]) (rest := []) hq hA hS (c_Ref_result l A ad a0) kB_Ref_result wt_536 ⟨rfl, rfl, Nat.le_of_ble_eq_true rfl, Nat.le_of_ble_eq_true rfl⟩ rfl hl.1 rfl (Nat.le_of_ble_eq_true rfl) d_Ref_kind_24 ⟨Nat.zero_le _, Nat.zero_le _⟩ ?_
        refine lv_goto (tgt := 55) hx hb d_Ref_kind_27 (by decide) ?_
        exact (by rw [if_pos c_2] at hj; exact hj)
    exact rr_i hq hr hk  hP hS (by unfold q_Ref_kind; exact (((if_neg c_1).trans rfl)).symm) (by rw [show q_Ref_kind_cd  a0 a1 = (0 : Int32) from by unfold q_Ref_kind_cd; exact ((if_neg c_1).trans rfl)]) rfl d_Ref_kind_55
  · refine lv_iconst (v := (-1 : Int32)) hx hb d_Ref_kind_17 (by decide) ?_
    exact rr_i hq hr hk  hP hS (by unfold q_Ref_kind; exact (((if_pos c_1).trans rfl)).symm) (by rw [show q_Ref_kind_cd  a0 a1 = (0 : Int32) from by unfold q_Ref_kind_cd; exact ((if_pos c_1).trans rfl)]) rfl d_Ref_kind_18
def q_Ref_reach_lo (lo : Int32) (hi : Int32) (a0 : Int32) (a1 : Int32) : Int32 :=
  (if lo ≤ a0 then lo else a0)
def q_Ref_reach_hi (lo : Int32) (hi : Int32) (a0 : Int32) (a1 : Int32) : Int32 :=
  (if a1 ≤ hi then hi else a1)
theorem kB_Ref_reach : RB y_Ref_reach b_Ref_reach 3 none 2 := ⟨wt_618, wt_617, wt_15, wt_36, by decide +kernel⟩
set_option maxHeartbeats 4000000 in
set_option maxRecDepth 100000 in
theorem c_Ref_reach (l : Launch) (A : Nat → Prop) (ad : Nat → Nat) (D : va_G) (cB cJ : ClassId) (o r : Nat) (hne : o ≠ r) (hA : ∀ q, rA o r q → A q) (cd : Int32) (la : Int64) (lo : Int32) (hi : Int32) (re : Int32) (wi : Int32) (fr : Int32) (bi : Int32) (mi : Int32) (am : Int64) (we : Int32) (f : Nat → Int32) (a0 : Int32) (a1 : Int32) : Met l y_Ref_reach (Cond.code y_Ref_reach b_Ref_reach 3 none :: BT) ({ frames := 0, cells := 0, slots := 0, locals := 0 }) (PR A ad D cB cJ o r (rf_ cd la r lo hi re wi fr bi mi am we) f [.int a0, .int a1]) (QRv D cB o r (rf_ cd la r (q_Ref_reach_lo lo hi a0 a1) (q_Ref_reach_hi lo hi a0 a1) re wi fr bi mi am we) f) 0 0 (rA o r) := by
  refine pr_ (by decide) (Nat.le_of_ble_eq_true rfl) ?_
  intro p e s m below meth c hq hP hS hr hk ls hl
  have hx := hq.1
  have hb := hq.2.1
  have hts := hq.2.2.2.2.1
  have hl : lv_has ls 3 [(0, .ref o), (1, .int a0), (2, .int a1)] := hl
  refine lv_aload_n hx hb d_Ref_reach_0 rfl (lv_at hl 0 rfl) ?_
  refine lv_iload_n hx hb d_Ref_reach_1 rfl (lv_at hl 1 rfl) ?_
  refine lv_aload_n hx hb d_Ref_reach_2 rfl (lv_at hl 0 rfl) ?_
  refine rg_ 3 hq hP (by decide) wt_487 rfl rfl d_Ref_reach_3 ?_
  refine jn_ (J := 17) (ls := ls) (v := .int (if lo ≤ a0 then lo else a0)) (rest := [.ref o]) (fun hj => ?_) ?_
  · refine lv_icmp_ge (tgt := 13) hx hb d_Ref_reach_6 (by decide) (fun c_1 => ?_) (fun c_1 => ?_)
    · refine lv_aload_n hx hb d_Ref_reach_13 rfl (lv_at hl 0 rfl) ?_
      refine rg_ 3 hq hP (by decide) wt_487 rfl rfl d_Ref_reach_14 ?_
      exact (by rw [if_pos c_1] at hj; exact hj)
    · refine lv_iload_n hx hb d_Ref_reach_9 rfl (lv_at hl 1 rfl) ?_
      refine lv_goto (tgt := 17) hx hb d_Ref_reach_10 (by decide) ?_
      exact (by rw [if_neg c_1] at hj; exact hj)
  refine rp_ 3 (ty := tR 3) hq hne hP hS (by decide) wt_487 rfl rfl rfl rfl rfl (Nat.le_of_ble_eq_true rfl) d_Ref_reach_17 (fun H locs hP hS => ?_)
  have hP : va_P D clR (rw_ o r cB (rf_ cd la r (if lo ≤ a0 then lo else a0) hi re wi fr bi mi am we) f) H := hP
  refine lv_aload_n hx hb d_Ref_reach_20 rfl (lv_at hl 0 rfl) ?_
  refine lv_iload_n hx hb d_Ref_reach_21 rfl (lv_at hl 2 rfl) ?_
  refine lv_aload_n hx hb d_Ref_reach_22 rfl (lv_at hl 0 rfl) ?_
  refine rg_ 4 hq hP (by decide) wt_488 rfl rfl d_Ref_reach_23 ?_
  refine jn_ (J := 37) (ls := ls) (v := .int (if a1 ≤ hi then hi else a1)) (rest := [.ref o]) (fun hj => ?_) ?_
  · refine lv_icmp_le (tgt := 33) hx hb d_Ref_reach_26 (by decide) (fun c_2 => ?_) (fun c_2 => ?_)
    · refine lv_aload_n hx hb d_Ref_reach_33 rfl (lv_at hl 0 rfl) ?_
      refine rg_ 4 hq hP (by decide) wt_488 rfl rfl d_Ref_reach_34 ?_
      exact (by rw [if_pos c_2] at hj; exact hj)
    · refine lv_iload_n hx hb d_Ref_reach_29 rfl (lv_at hl 2 rfl) ?_
      refine lv_goto (tgt := 37) hx hb d_Ref_reach_30 (by decide) ?_
      exact (by rw [if_neg c_2] at hj; exact hj)
  refine rp_ 4 (ty := tR 4) hq hne hP hS (by decide) wt_488 rfl rfl rfl rfl rfl (Nat.le_of_ble_eq_true rfl) d_Ref_reach_37 (fun H locs hP hS => ?_)
  have hP : va_P D clR (rw_ o r cB (rf_ cd la r (if lo ≤ a0 then lo else a0) (if a1 ≤ hi then hi else a1) re wi fr bi mi am we) f) H := hP
  exact rr_v hq hr hk  hP hS  (by rw [show q_Ref_reach_lo lo hi a0 a1 = (if lo ≤ a0 then lo else a0) from by unfold q_Ref_reach_lo; exact rfl, show q_Ref_reach_hi lo hi a0 a1 = (if a1 ≤ hi then hi else a1) from by unfold q_Ref_reach_hi; exact rfl]) rfl d_Ref_reach_40
def q_Ref_format_wi  (a0 : Int32) : Int32 :=
  a0
def q_Ref_format_fr  (a0 : Int32) : Int32 :=
  (if a0 = (32 : Int32) then (23 : Int32) else (52 : Int32))
def q_Ref_format_bi  (a0 : Int32) : Int32 :=
  (if a0 = (32 : Int32) then (127 : Int32) else (1023 : Int32))
theorem kB_Ref_format : RB y_Ref_format b_Ref_format 2 none 1 := ⟨wt_561, wt_560, wt_3, wt_36, by decide +kernel⟩
set_option maxHeartbeats 4000000 in
set_option maxRecDepth 100000 in
theorem c_Ref_format (l : Launch) (A : Nat → Prop) (ad : Nat → Nat) (D : va_G) (cB cJ : ClassId) (o r : Nat) (hne : o ≠ r) (hA : ∀ q, rA o r q → A q) (cd : Int32) (la : Int64) (lo : Int32) (hi : Int32) (re : Int32) (wi : Int32) (fr : Int32) (bi : Int32) (mi : Int32) (am : Int64) (we : Int32) (f : Nat → Int32) (a0 : Int32) : Met l y_Ref_format (Cond.code y_Ref_format b_Ref_format 2 none :: BT) ({ frames := 0, cells := 0, slots := 0, locals := 0 }) (PR A ad D cB cJ o r (rf_ cd la r lo hi re wi fr bi mi am we) f [.int a0]) (QRv D cB o r (rf_ cd la r lo hi re (q_Ref_format_wi  a0) (q_Ref_format_fr  a0) (q_Ref_format_bi  a0) mi am we) f) 0 0 (rA o r) := by
  refine pr_ (by decide) (Nat.le_of_ble_eq_true rfl) ?_
  intro p e s m below meth c hq hP hS hr hk ls hl
  have hx := hq.1
  have hb := hq.2.1
  have hts := hq.2.2.2.2.1
  have hl : lv_has ls 2 [(0, .ref o), (1, .int a0)] := hl
  refine lv_aload_n hx hb d_Ref_format_0 rfl (lv_at hl 0 rfl) ?_
  refine lv_iload_n hx hb d_Ref_format_1 rfl (lv_at hl 1 rfl) ?_
  refine rp_ 6 (ty := tR 6) hq hne hP hS (by decide) wt_490 rfl rfl rfl rfl rfl (Nat.le_of_ble_eq_true rfl) d_Ref_format_2 (fun H locs hP hS => ?_)
  have hP : va_P D clR (rw_ o r cB (rf_ cd la r lo hi re a0 fr bi mi am we) f) H := hP
  refine lv_aload_n hx hb d_Ref_format_5 rfl (lv_at hl 0 rfl) ?_
  refine lv_iload_n hx hb d_Ref_format_6 rfl (lv_at hl 1 rfl) ?_
  refine lv_bipush (v := (32 : Int32)) hx hb d_Ref_format_7 (by decide) ?_
  refine jn_ (J := 19) (ls := ls) (v := .int (if a0 = (32 : Int32) then (23 : Int32) else (52 : Int32))) (rest := [.ref o]) (fun hj => ?_) ?_
  · refine lv_icmp_ne (tgt := 17) hx hb d_Ref_format_9 (by decide) (fun c_1 => ?_) (fun c_1 => ?_)
    · refine lv_bipush (v := (52 : Int32)) hx hb d_Ref_format_17 (by decide) ?_
      exact (by rw [if_neg c_1] at hj; exact hj)
    · refine lv_bipush (v := (23 : Int32)) hx hb d_Ref_format_12 (by decide) ?_
      refine lv_goto (tgt := 19) hx hb d_Ref_format_14 (by decide) ?_
      exact (by rw [if_pos c_1] at hj; exact hj)
  refine rp_ 7 (ty := tR 7) hq hne hP hS (by decide) wt_491 rfl rfl rfl rfl rfl (Nat.le_of_ble_eq_true rfl) d_Ref_format_19 (fun H locs hP hS => ?_)
  have hP : va_P D clR (rw_ o r cB (rf_ cd la r lo hi re a0 (if a0 = (32 : Int32) then (23 : Int32) else (52 : Int32)) bi mi am we) f) H := hP
  refine lv_aload_n hx hb d_Ref_format_22 rfl (lv_at hl 0 rfl) ?_
  refine lv_iload_n hx hb d_Ref_format_23 rfl (lv_at hl 1 rfl) ?_
  refine lv_bipush (v := (32 : Int32)) hx hb d_Ref_format_24 (by decide) ?_
  refine jn_ (J := 37) (ls := ls) (v := .int (if a0 = (32 : Int32) then (127 : Int32) else (1023 : Int32))) (rest := [.ref o]) (fun hj => ?_) ?_
  · refine lv_icmp_ne (tgt := 34) hx hb d_Ref_format_26 (by decide) (fun c_2 => ?_) (fun c_2 => ?_)
    · refine lv_sipush (v := (1023 : Int32)) hx hb d_Ref_format_34 (by decide) ?_
      exact (by rw [if_neg c_2] at hj; exact hj)
    · refine lv_bipush (v := (127 : Int32)) hx hb d_Ref_format_29 (by decide) ?_
      refine lv_goto (tgt := 37) hx hb d_Ref_format_31 (by decide) ?_
      exact (by rw [if_pos c_2] at hj; exact hj)
  refine rp_ 8 (ty := tR 8) hq hne hP hS (by decide) wt_492 rfl rfl rfl rfl rfl (Nat.le_of_ble_eq_true rfl) d_Ref_format_37 (fun H locs hP hS => ?_)
  have hP : va_P D clR (rw_ o r cB (rf_ cd la r lo hi re a0 (if a0 = (32 : Int32) then (23 : Int32) else (52 : Int32)) (if a0 = (32 : Int32) then (127 : Int32) else (1023 : Int32)) mi am we) f) H := hP
  exact rr_v hq hr hk  hP hS  (by rw [show q_Ref_format_wi  a0 = a0 from by unfold q_Ref_format_wi; exact rfl, show q_Ref_format_fr  a0 = (if a0 = (32 : Int32) then (23 : Int32) else (52 : Int32)) from by unfold q_Ref_format_fr; exact rfl, show q_Ref_format_bi  a0 = (if a0 = (32 : Int32) then (127 : Int32) else (1023 : Int32)) from by unfold q_Ref_format_bi; exact rfl]) rfl d_Ref_format_40
def q_Ref_signed (wi : Int32) (a0 : Int64) (a1 : Int32) : Int64 :=
  (if a1 = 0 then a0 else (a0 ||| (shl_ (1 : Int64) (wi - (1 : Int32)))))
theorem kB_Ref_signed : RB y_Ref_signed b_Ref_signed 4 (some .long) 2 := ⟨wt_582, wt_581, wt_8, wt_36, by decide +kernel⟩
set_option maxHeartbeats 4000000 in
set_option maxRecDepth 100000 in
theorem c_Ref_signed (l : Launch) (A : Nat → Prop) (ad : Nat → Nat) (D : va_G) (cB cJ : ClassId) (o r : Nat) (hne : o ≠ r) (hA : ∀ q, rA o r q → A q) (cd : Int32) (la : Int64) (lo : Int32) (hi : Int32) (re : Int32) (wi : Int32) (fr : Int32) (bi : Int32) (mi : Int32) (am : Int64) (we : Int32) (f : Nat → Int32) (a0 : Int64) (a1 : Int32) : Met l y_Ref_signed (Cond.code y_Ref_signed b_Ref_signed 4 (some .long) :: BT) ({ frames := 0, cells := 0, slots := 0, locals := 0 }) (PR A ad D cB cJ o r (rf_ cd la r lo hi re wi fr bi mi am we) f [.long a0, .int a1]) (QRl D cB o r (q_Ref_signed wi a0 a1) (rf_ cd la r lo hi re wi fr bi mi am we) f) 0 0 (rA o r) := by
  refine pr_ (by decide) (Nat.le_of_ble_eq_true rfl) ?_
  intro p e s m below meth c hq hP hS hr hk ls hl
  have hx := hq.1
  have hb := hq.2.1
  have hts := hq.2.2.2.2.1
  have hl : lv_has ls 4 [(0, .ref o), (1, .long a0), (3, .int a1)] := hl
  refine lv_iload_n hx hb d_Ref_signed_0 rfl (lv_at hl 2 rfl) ?_
  refine jn_ (J := 18) (ls := ls) (v := .long (if a1 = 0 then a0 else (a0 ||| (shl_ (1 : Int64) (wi - (1 : Int32)))))) (rest := []) (fun hj => ?_) ?_
  · refine lv_if_eq (tgt := 17) hx hb d_Ref_signed_1 (by decide) (fun c_1 => ?_) (fun c_1 => ?_)
    · refine lv_lload_n hx hb d_Ref_signed_17 rfl (lv_at hl 1 rfl) ?_
      exact (by rw [if_pos c_1] at hj; exact hj)
    · refine lv_lload_n hx hb d_Ref_signed_4 rfl (lv_at hl 1 rfl) ?_
      refine lv_lconst (v := (1 : Int64)) hx hb d_Ref_signed_5 (by decide) ?_
      refine lv_aload_n hx hb d_Ref_signed_6 rfl (lv_at hl 0 rfl) ?_
      refine rg_ 6 hq hP (by decide) wt_490 rfl rfl d_Ref_signed_7 ?_
      refine lv_iconst (v := (1 : Int32)) hx hb d_Ref_signed_10 (by decide) ?_
      refine lv_isub hx hb d_Ref_signed_11 ?_
      refine lv_lshl (v := (shl_ (1 : Int64) (wi - (1 : Int32)))) hx hb d_Ref_signed_12 rfl ?_
      refine lv_lor hx hb d_Ref_signed_13 ?_
      refine lv_goto (tgt := 18) hx hb d_Ref_signed_14 (by decide) ?_
      exact (by rw [if_neg c_1] at hj; exact hj)
  exact rr_l hq hr hk  hP hS (by unfold q_Ref_signed; exact (rfl).symm) rfl rfl d_Ref_signed_18
def q_Ref_infinite (wi : Int32) (fr : Int32) (bi : Int32) (a0 : Int32) : Int64 :=
  (q_Ref_signed wi (shl_ (((2 : Int64) * (Int32.toInt64 bi)) + (1 : Int64)) fr) a0)
theorem kB_Ref_infinite : RB y_Ref_infinite b_Ref_infinite 2 (some .long) 1 := ⟨wt_577, wt_576, wt_7, wt_36, by decide +kernel⟩
set_option maxHeartbeats 4000000 in
set_option maxRecDepth 100000 in
theorem c_Ref_infinite (l : Launch) (A : Nat → Prop) (ad : Nat → Nat) (D : va_G) (cB cJ : ClassId) (o r : Nat) (hne : o ≠ r) (hA : ∀ q, rA o r q → A q) (cd : Int32) (la : Int64) (lo : Int32) (hi : Int32) (re : Int32) (wi : Int32) (fr : Int32) (bi : Int32) (mi : Int32) (am : Int64) (we : Int32) (f : Nat → Int32) (a0 : Int32) : Met l y_Ref_infinite (Cond.code y_Ref_infinite b_Ref_infinite 2 (some .long) :: BT) ({ frames := 1, cells := 0, slots := 0, locals := 23 }) (PR A ad D cB cJ o r (rf_ cd la r lo hi re wi fr bi mi am we) f [.int a0]) (QRl D cB o r (q_Ref_infinite wi fr bi a0) (rf_ cd la r lo hi re wi fr bi mi am we) f) 0 0 (rA o r) := by
  refine pr_ (by decide) (Nat.le_of_ble_eq_true rfl) ?_
  intro p e s m below meth c hq hP hS hr hk ls hl
  have hx := hq.1
  have hb := hq.2.1
  have hts := hq.2.2.2.2.1
  have hl : lv_has ls 2 [(0, .ref o), (1, .int a0)] := hl
  refine lv_aload_n hx hb d_Ref_infinite_0 rfl (lv_at hl 0 rfl) ?_
  refine lv_ldc2 (v := (2 : Int64)) hx hb hq.2.2.2.1 (hts _ wt_578) d_Ref_infinite_1 ?_
  refine lv_aload_n hx hb d_Ref_infinite_4 rfl (lv_at hl 0 rfl) ?_
  refine rg_ 8 hq hP (by decide) wt_492 rfl rfl d_Ref_infinite_5 ?_
  refine lv_i2l (v := (Int32.toInt64 bi)) hx hb d_Ref_infinite_8 rfl ?_
  refine lv_lmul hx hb d_Ref_infinite_9 ?_
  refine lv_lconst (v := (1 : Int64)) hx hb d_Ref_infinite_10 (by decide) ?_
  refine lv_ladd hx hb d_Ref_infinite_11 ?_
  refine lv_aload_n hx hb d_Ref_infinite_12 rfl (lv_at hl 0 rfl) ?_
  refine rg_ 7 hq hP (by decide) wt_491 rfl rfl d_Ref_infinite_13 ?_
  refine lv_lshl (v := (shl_ (((2 : Int64) * (Int32.toInt64 bi)) + (1 : Int64)) fr)) hx hb d_Ref_infinite_16 rfl ?_
  refine lv_iload_n hx hb d_Ref_infinite_17 rfl (lv_at hl 1 rfl) ?_
  refine rv_l (As := [.long (shl_ (((2 : Int64) * (Int32.toInt64 bi)) + (1 : Int64)) fr), .int a0]) (rest := []) hq hA hP hS (c_Ref_signed l A ad D cB cJ o r hne hA cd la lo hi re wi fr bi mi am we f (shl_ (((2 : Int64) * (Int32.toInt64 bi)) + (1 : Int64)) fr) a0) kB_Ref_signed wt_579 ⟨rfl, rfl, Nat.le_of_ble_eq_true rfl, Nat.le_of_ble_eq_true rfl⟩ rfl hl.1 rfl (Nat.le_of_ble_eq_true rfl) d_Ref_infinite_18 ⟨Nat.zero_le _, Nat.zero_le _⟩ (fun H locs hP hS => ?_)
  exact rr_l hq hr hk  hP hS (by unfold q_Ref_infinite; exact (rfl).symm) rfl rfl d_Ref_infinite_21
def q_Ref_noNumber (wi : Int32)  : Int64 :=
  (if wi = (32 : Int32) then (2143289344 : Int64) else (9221120237041090560 : Int64))
theorem kB_Ref_noNumber : RB y_Ref_noNumber b_Ref_noNumber 1 (some .long) 0 := ⟨wt_642, wt_641, wt_21, wt_36, by decide +kernel⟩
set_option maxHeartbeats 4000000 in
set_option maxRecDepth 100000 in
theorem c_Ref_noNumber (l : Launch) (A : Nat → Prop) (ad : Nat → Nat) (D : va_G) (cB cJ : ClassId) (o r : Nat) (hne : o ≠ r) (hA : ∀ q, rA o r q → A q) (cd : Int32) (la : Int64) (lo : Int32) (hi : Int32) (re : Int32) (wi : Int32) (fr : Int32) (bi : Int32) (mi : Int32) (am : Int64) (we : Int32) (f : Nat → Int32)  : Met l y_Ref_noNumber (Cond.code y_Ref_noNumber b_Ref_noNumber 1 (some .long) :: BT) ({ frames := 0, cells := 0, slots := 0, locals := 0 }) (PR A ad D cB cJ o r (rf_ cd la r lo hi re wi fr bi mi am we) f []) (QRl D cB o r (q_Ref_noNumber wi ) (rf_ cd la r lo hi re wi fr bi mi am we) f) 0 0 (rA o r) := by
  refine pr_ (by decide) (Nat.le_of_ble_eq_true rfl) ?_
  intro p e s m below meth c hq hP hS hr hk ls hl
  have hx := hq.1
  have hb := hq.2.1
  have hts := hq.2.2.2.2.1
  have hl : lv_has ls 1 [(0, .ref o)] := hl
  refine lv_aload_n hx hb d_Ref_noNumber_0 rfl (lv_at hl 0 rfl) ?_
  refine rg_ 6 hq hP (by decide) wt_490 rfl rfl d_Ref_noNumber_1 ?_
  refine lv_bipush (v := (32 : Int32)) hx hb d_Ref_noNumber_4 (by decide) ?_
  refine jn_ (J := 18) (ls := ls) (v := .long (if wi = (32 : Int32) then (2143289344 : Int64) else (9221120237041090560 : Int64))) (rest := []) (fun hj => ?_) ?_
  · refine lv_icmp_ne (tgt := 15) hx hb d_Ref_noNumber_6 (by decide) (fun c_1 => ?_) (fun c_1 => ?_)
    · refine lv_ldc2 (v := (9221120237041090560 : Int64)) hx hb hq.2.2.2.1 (hts _ wt_644) d_Ref_noNumber_15 ?_
      exact (by rw [if_neg c_1] at hj; exact hj)
    · refine lv_ldc2 (v := (2143289344 : Int64)) hx hb hq.2.2.2.1 (hts _ wt_643) d_Ref_noNumber_9 ?_
      refine lv_goto (tgt := 18) hx hb d_Ref_noNumber_12 (by decide) ?_
      exact (by rw [if_pos c_1] at hj; exact hj)
  exact rr_l hq hr hk  hP hS (by unfold q_Ref_noNumber; exact (rfl).symm) rfl rfl d_Ref_noNumber_18
def q_Ref_size (wi : Int32) (a0 : Int64) : Int64 :=
  (a0 &&& ((shl_ (1 : Int64) (wi - (1 : Int32))) - (1 : Int64)))
theorem kB_Ref_size : RB y_Ref_size b_Ref_size 3 (some .long) 1 := ⟨wt_573, wt_572, wt_6, wt_36, by decide +kernel⟩
set_option maxHeartbeats 4000000 in
set_option maxRecDepth 100000 in
theorem c_Ref_size (l : Launch) (A : Nat → Prop) (ad : Nat → Nat) (D : va_G) (cB cJ : ClassId) (o r : Nat) (hne : o ≠ r) (hA : ∀ q, rA o r q → A q) (cd : Int32) (la : Int64) (lo : Int32) (hi : Int32) (re : Int32) (wi : Int32) (fr : Int32) (bi : Int32) (mi : Int32) (am : Int64) (we : Int32) (f : Nat → Int32) (a0 : Int64) : Met l y_Ref_size (Cond.code y_Ref_size b_Ref_size 3 (some .long) :: BT) ({ frames := 0, cells := 0, slots := 0, locals := 0 }) (PR A ad D cB cJ o r (rf_ cd la r lo hi re wi fr bi mi am we) f [.long a0]) (QRl D cB o r (q_Ref_size wi a0) (rf_ cd la r lo hi re wi fr bi mi am we) f) 0 0 (rA o r) := by
  refine pr_ (by decide) (Nat.le_of_ble_eq_true rfl) ?_
  intro p e s m below meth c hq hP hS hr hk ls hl
  have hx := hq.1
  have hb := hq.2.1
  have hts := hq.2.2.2.2.1
  have hl : lv_has ls 3 [(0, .ref o), (1, .long a0)] := hl
  refine lv_lload_n hx hb d_Ref_size_0 rfl (lv_at hl 1 rfl) ?_
  refine lv_lconst (v := (1 : Int64)) hx hb d_Ref_size_1 (by decide) ?_
  refine lv_aload_n hx hb d_Ref_size_2 rfl (lv_at hl 0 rfl) ?_
  refine rg_ 6 hq hP (by decide) wt_490 rfl rfl d_Ref_size_3 ?_
  refine lv_iconst (v := (1 : Int32)) hx hb d_Ref_size_6 (by decide) ?_
  refine lv_isub hx hb d_Ref_size_7 ?_
  refine lv_lshl (v := (shl_ (1 : Int64) (wi - (1 : Int32)))) hx hb d_Ref_size_8 rfl ?_
  refine lv_lconst (v := (1 : Int64)) hx hb d_Ref_size_9 (by decide) ?_
  refine lv_lsub hx hb d_Ref_size_10 ?_
  refine lv_land hx hb d_Ref_size_11 ?_
  exact rr_l hq hr hk  hP hS (by unfold q_Ref_size; exact (rfl).symm) rfl rfl d_Ref_size_12
def q_Ref_isMinus (wi : Int32) (a0 : Int64) : Int32 :=
  (if ((shr_ a0 (wi - (1 : Int32))) &&& (1 : Int64)) = (1 : Int64) then (1 : Int32) else (0 : Int32))
theorem zb_Ref_isMinus (wi : Int32) (a0 : Int64) : q_Ref_isMinus wi a0 = 0 ∨ q_Ref_isMinus wi a0 = 1 := by
  unfold q_Ref_isMinus
  repeat' split
  all_goals first | exact Or.inl rfl | exact Or.inr rfl
theorem kB_Ref_isMinus : RB y_Ref_isMinus b_Ref_isMinus 3 (some .boolean) 1 := ⟨wt_594, wt_593, wt_11, wt_36, by decide +kernel⟩
set_option maxHeartbeats 4000000 in
set_option maxRecDepth 100000 in
theorem c_Ref_isMinus (l : Launch) (A : Nat → Prop) (ad : Nat → Nat) (D : va_G) (cB cJ : ClassId) (o r : Nat) (hne : o ≠ r) (hA : ∀ q, rA o r q → A q) (cd : Int32) (la : Int64) (lo : Int32) (hi : Int32) (re : Int32) (wi : Int32) (fr : Int32) (bi : Int32) (mi : Int32) (am : Int64) (we : Int32) (f : Nat → Int32) (a0 : Int64) : Met l y_Ref_isMinus (Cond.code y_Ref_isMinus b_Ref_isMinus 3 (some .boolean) :: BT) ({ frames := 0, cells := 0, slots := 0, locals := 0 }) (PR A ad D cB cJ o r (rf_ cd la r lo hi re wi fr bi mi am we) f [.long a0]) (QRi D cB o r (q_Ref_isMinus wi a0) (rf_ cd la r lo hi re wi fr bi mi am we) f) 0 0 (rA o r) := by
  refine pr_ (by decide) (Nat.le_of_ble_eq_true rfl) ?_
  intro p e s m below meth c hq hP hS hr hk ls hl
  have hx := hq.1
  have hb := hq.2.1
  have hts := hq.2.2.2.2.1
  have hl : lv_has ls 3 [(0, .ref o), (1, .long a0)] := hl
  refine lv_lload_n hx hb d_Ref_isMinus_0 rfl (lv_at hl 1 rfl) ?_
  refine lv_aload_n hx hb d_Ref_isMinus_1 rfl (lv_at hl 0 rfl) ?_
  refine rg_ 6 hq hP (by decide) wt_490 rfl rfl d_Ref_isMinus_2 ?_
  refine lv_iconst (v := (1 : Int32)) hx hb d_Ref_isMinus_5 (by decide) ?_
  refine lv_isub hx hb d_Ref_isMinus_6 ?_
  refine lv_lshr (v := (shr_ a0 (wi - (1 : Int32)))) hx hb d_Ref_isMinus_7 rfl ?_
  refine lv_lconst (v := (1 : Int64)) hx hb d_Ref_isMinus_8 (by decide) ?_
  refine lv_land hx hb d_Ref_isMinus_9 ?_
  refine lv_lconst (v := (1 : Int64)) hx hb d_Ref_isMinus_10 (by decide) ?_
  refine W.lcmp hx hb d_Ref_isMinus_11 ?_
  refine jn_ (J := 20) (ls := ls) (v := .int (if ((shr_ a0 (wi - (1 : Int32))) &&& (1 : Int64)) = (1 : Int64) then (1 : Int32) else (0 : Int32))) (rest := []) (fun hj => ?_) ?_
  · refine lv_if_ne (tgt := 19) hx hb d_Ref_isMinus_12 (by decide) (fun c_1 => ?_) (fun c_1 => ?_)
    · rw [lg_cmp_eq] at c_1
      refine lv_iconst (v := (0 : Int32)) hx hb d_Ref_isMinus_19 (by decide) ?_
      exact (by rw [if_neg c_1] at hj; exact hj)
    · rw [lg_cmp_eq] at c_1
      refine lv_iconst (v := (1 : Int32)) hx hb d_Ref_isMinus_15 (by decide) ?_
      refine lv_goto (tgt := 20) hx hb d_Ref_isMinus_16 (by decide) ?_
      exact (by rw [if_pos c_1] at hj; exact hj)
  exact rr_z hq hr hk (nb_ (by (repeat' split) <;> first | exact Or.inl rfl | exact Or.inr rfl)) hP hS (by unfold q_Ref_isMinus; exact (rfl).symm) rfl rfl d_Ref_isMinus_20
def q_Ref_isNone (wi : Int32) (fr : Int32) (bi : Int32) (a0 : Int64) : Int32 :=
  (if (q_Ref_size wi a0) ≤ (q_Ref_infinite wi fr bi (0 : Int32)) then (0 : Int32) else (1 : Int32))
theorem zb_Ref_isNone (wi : Int32) (fr : Int32) (bi : Int32) (a0 : Int64) : q_Ref_isNone wi fr bi a0 = 0 ∨ q_Ref_isNone wi fr bi a0 = 1 := by
  unfold q_Ref_isNone
  repeat' split
  all_goals first | exact Or.inl rfl | exact Or.inr rfl
theorem kB_Ref_isNone : RB y_Ref_isNone b_Ref_isNone 3 (some .boolean) 1 := ⟨wt_569, wt_568, wt_5, wt_36, by decide +kernel⟩
set_option maxHeartbeats 4000000 in
set_option maxRecDepth 100000 in
theorem c_Ref_isNone (l : Launch) (A : Nat → Prop) (ad : Nat → Nat) (D : va_G) (cB cJ : ClassId) (o r : Nat) (hne : o ≠ r) (hA : ∀ q, rA o r q → A q) (cd : Int32) (la : Int64) (lo : Int32) (hi : Int32) (re : Int32) (wi : Int32) (fr : Int32) (bi : Int32) (mi : Int32) (am : Int64) (we : Int32) (f : Nat → Int32) (a0 : Int64) : Met l y_Ref_isNone (Cond.code y_Ref_isNone b_Ref_isNone 3 (some .boolean) :: BT) ({ frames := 2, cells := 0, slots := 0, locals := 44 }) (PR A ad D cB cJ o r (rf_ cd la r lo hi re wi fr bi mi am we) f [.long a0]) (QRi D cB o r (q_Ref_isNone wi fr bi a0) (rf_ cd la r lo hi re wi fr bi mi am we) f) 0 0 (rA o r) := by
  refine pr_ (by decide) (Nat.le_of_ble_eq_true rfl) ?_
  intro p e s m below meth c hq hP hS hr hk ls hl
  have hx := hq.1
  have hb := hq.2.1
  have hts := hq.2.2.2.2.1
  have hl : lv_has ls 3 [(0, .ref o), (1, .long a0)] := hl
  refine lv_aload_n hx hb d_Ref_isNone_0 rfl (lv_at hl 0 rfl) ?_
  refine lv_lload_n hx hb d_Ref_isNone_1 rfl (lv_at hl 1 rfl) ?_
  refine rv_l (As := [.long a0]) (rest := []) hq hA hP hS (c_Ref_size l A ad D cB cJ o r hne hA cd la lo hi re wi fr bi mi am we f a0) kB_Ref_size wt_570 ⟨rfl, rfl, Nat.le_of_ble_eq_true rfl, Nat.le_of_ble_eq_true rfl⟩ rfl hl.1 rfl (Nat.le_of_ble_eq_true rfl) d_Ref_isNone_2 ⟨Nat.zero_le _, Nat.zero_le _⟩ (fun H locs hP hS => ?_)
  refine lv_aload_n hx hb d_Ref_isNone_5 rfl (lv_at hl 0 rfl) ?_
  refine lv_iconst (v := (0 : Int32)) hx hb d_Ref_isNone_6 (by decide) ?_
  refine rv_l (As := [.int (0 : Int32)]) (rest := [.long (q_Ref_size wi a0)]) hq hA hP hS (c_Ref_infinite l A ad D cB cJ o r hne hA cd la lo hi re wi fr bi mi am we f (0 : Int32)) kB_Ref_infinite wt_574 ⟨rfl, rfl, Nat.le_of_ble_eq_true rfl, Nat.le_of_ble_eq_true rfl⟩ rfl hl.1 rfl (Nat.le_of_ble_eq_true rfl) d_Ref_isNone_7 ⟨Nat.zero_le _, Nat.zero_le _⟩ (fun H locs hP hS => ?_)
  refine W.lcmp hx hb d_Ref_isNone_10 ?_
  refine jn_ (J := 19) (ls := ls) (v := .int (if (q_Ref_size wi a0) ≤ (q_Ref_infinite wi fr bi (0 : Int32)) then (0 : Int32) else (1 : Int32))) (rest := []) (fun hj => ?_) ?_
  · refine lv_if_le (tgt := 18) hx hb d_Ref_isNone_11 (by decide) (fun c_1 => ?_) (fun c_1 => ?_)
    · rw [lg_cmp_le] at c_1
      refine lv_iconst (v := (0 : Int32)) hx hb d_Ref_isNone_18 (by decide) ?_
      exact (by rw [if_pos c_1] at hj; exact hj)
    · rw [lg_cmp_le] at c_1
      refine lv_iconst (v := (1 : Int32)) hx hb d_Ref_isNone_14 (by decide) ?_
      refine lv_goto (tgt := 19) hx hb d_Ref_isNone_15 (by decide) ?_
      exact (by rw [if_neg c_1] at hj; exact hj)
  exact rr_z hq hr hk (nb_ (by (repeat' split) <;> first | exact Or.inl rfl | exact Or.inr rfl)) hP hS (by unfold q_Ref_isNone; exact (rfl).symm) rfl rfl d_Ref_isNone_19
def q_Ref_isInfinite (wi : Int32) (fr : Int32) (bi : Int32) (a0 : Int64) : Int32 :=
  (if (q_Ref_size wi a0) = (q_Ref_infinite wi fr bi (0 : Int32)) then (1 : Int32) else (0 : Int32))
theorem zb_Ref_isInfinite (wi : Int32) (fr : Int32) (bi : Int32) (a0 : Int64) : q_Ref_isInfinite wi fr bi a0 = 0 ∨ q_Ref_isInfinite wi fr bi a0 = 1 := by
  unfold q_Ref_isInfinite
  repeat' split
  all_goals first | exact Or.inl rfl | exact Or.inr rfl
theorem kB_Ref_isInfinite : RB y_Ref_isInfinite b_Ref_isInfinite 3 (some .boolean) 1 := ⟨wt_586, wt_585, wt_9, wt_36, by decide +kernel⟩
set_option maxHeartbeats 4000000 in
set_option maxRecDepth 100000 in
theorem c_Ref_isInfinite (l : Launch) (A : Nat → Prop) (ad : Nat → Nat) (D : va_G) (cB cJ : ClassId) (o r : Nat) (hne : o ≠ r) (hA : ∀ q, rA o r q → A q) (cd : Int32) (la : Int64) (lo : Int32) (hi : Int32) (re : Int32) (wi : Int32) (fr : Int32) (bi : Int32) (mi : Int32) (am : Int64) (we : Int32) (f : Nat → Int32) (a0 : Int64) : Met l y_Ref_isInfinite (Cond.code y_Ref_isInfinite b_Ref_isInfinite 3 (some .boolean) :: BT) ({ frames := 2, cells := 0, slots := 0, locals := 44 }) (PR A ad D cB cJ o r (rf_ cd la r lo hi re wi fr bi mi am we) f [.long a0]) (QRi D cB o r (q_Ref_isInfinite wi fr bi a0) (rf_ cd la r lo hi re wi fr bi mi am we) f) 0 0 (rA o r) := by
  refine pr_ (by decide) (Nat.le_of_ble_eq_true rfl) ?_
  intro p e s m below meth c hq hP hS hr hk ls hl
  have hx := hq.1
  have hb := hq.2.1
  have hts := hq.2.2.2.2.1
  have hl : lv_has ls 3 [(0, .ref o), (1, .long a0)] := hl
  refine lv_aload_n hx hb d_Ref_isInfinite_0 rfl (lv_at hl 0 rfl) ?_
  refine lv_lload_n hx hb d_Ref_isInfinite_1 rfl (lv_at hl 1 rfl) ?_
  refine rv_l (As := [.long a0]) (rest := []) hq hA hP hS (c_Ref_size l A ad D cB cJ o r hne hA cd la lo hi re wi fr bi mi am we f a0) kB_Ref_size wt_570 ⟨rfl, rfl, Nat.le_of_ble_eq_true rfl, Nat.le_of_ble_eq_true rfl⟩ rfl hl.1 rfl (Nat.le_of_ble_eq_true rfl) d_Ref_isInfinite_2 ⟨Nat.zero_le _, Nat.zero_le _⟩ (fun H locs hP hS => ?_)
  refine lv_aload_n hx hb d_Ref_isInfinite_5 rfl (lv_at hl 0 rfl) ?_
  refine lv_iconst (v := (0 : Int32)) hx hb d_Ref_isInfinite_6 (by decide) ?_
  refine rv_l (As := [.int (0 : Int32)]) (rest := [.long (q_Ref_size wi a0)]) hq hA hP hS (c_Ref_infinite l A ad D cB cJ o r hne hA cd la lo hi re wi fr bi mi am we f (0 : Int32)) kB_Ref_infinite wt_574 ⟨rfl, rfl, Nat.le_of_ble_eq_true rfl, Nat.le_of_ble_eq_true rfl⟩ rfl hl.1 rfl (Nat.le_of_ble_eq_true rfl) d_Ref_isInfinite_7 ⟨Nat.zero_le _, Nat.zero_le _⟩ (fun H locs hP hS => ?_)
  refine W.lcmp hx hb d_Ref_isInfinite_10 ?_
  refine jn_ (J := 19) (ls := ls) (v := .int (if (q_Ref_size wi a0) = (q_Ref_infinite wi fr bi (0 : Int32)) then (1 : Int32) else (0 : Int32))) (rest := []) (fun hj => ?_) ?_
  · refine lv_if_ne (tgt := 18) hx hb d_Ref_isInfinite_11 (by decide) (fun c_1 => ?_) (fun c_1 => ?_)
    · rw [lg_cmp_eq] at c_1
      refine lv_iconst (v := (0 : Int32)) hx hb d_Ref_isInfinite_18 (by decide) ?_
      exact (by rw [if_neg c_1] at hj; exact hj)
    · rw [lg_cmp_eq] at c_1
      refine lv_iconst (v := (1 : Int32)) hx hb d_Ref_isInfinite_14 (by decide) ?_
      refine lv_goto (tgt := 19) hx hb d_Ref_isInfinite_15 (by decide) ?_
      exact (by rw [if_pos c_1] at hj; exact hj)
  exact rr_z hq hr hk (nb_ (by (repeat' split) <;> first | exact Or.inl rfl | exact Or.inr rfl)) hP hS (by unfold q_Ref_isInfinite; exact (rfl).symm) rfl rfl d_Ref_isInfinite_19
def q_Ref_isZero (wi : Int32) (a0 : Int64) : Int32 :=
  (if (q_Ref_size wi a0) = (0 : Int64) then (1 : Int32) else (0 : Int32))
theorem zb_Ref_isZero (wi : Int32) (a0 : Int64) : q_Ref_isZero wi a0 = 0 ∨ q_Ref_isZero wi a0 = 1 := by
  unfold q_Ref_isZero
  repeat' split
  all_goals first | exact Or.inl rfl | exact Or.inr rfl
theorem kB_Ref_isZero : RB y_Ref_isZero b_Ref_isZero 3 (some .boolean) 1 := ⟨wt_638, wt_637, wt_20, wt_36, by decide +kernel⟩
set_option maxHeartbeats 4000000 in
set_option maxRecDepth 100000 in
theorem c_Ref_isZero (l : Launch) (A : Nat → Prop) (ad : Nat → Nat) (D : va_G) (cB cJ : ClassId) (o r : Nat) (hne : o ≠ r) (hA : ∀ q, rA o r q → A q) (cd : Int32) (la : Int64) (lo : Int32) (hi : Int32) (re : Int32) (wi : Int32) (fr : Int32) (bi : Int32) (mi : Int32) (am : Int64) (we : Int32) (f : Nat → Int32) (a0 : Int64) : Met l y_Ref_isZero (Cond.code y_Ref_isZero b_Ref_isZero 3 (some .boolean) :: BT) ({ frames := 1, cells := 0, slots := 0, locals := 22 }) (PR A ad D cB cJ o r (rf_ cd la r lo hi re wi fr bi mi am we) f [.long a0]) (QRi D cB o r (q_Ref_isZero wi a0) (rf_ cd la r lo hi re wi fr bi mi am we) f) 0 0 (rA o r) := by
  refine pr_ (by decide) (Nat.le_of_ble_eq_true rfl) ?_
  intro p e s m below meth c hq hP hS hr hk ls hl
  have hx := hq.1
  have hb := hq.2.1
  have hts := hq.2.2.2.2.1
  have hl : lv_has ls 3 [(0, .ref o), (1, .long a0)] := hl
  refine lv_aload_n hx hb d_Ref_isZero_0 rfl (lv_at hl 0 rfl) ?_
  refine lv_lload_n hx hb d_Ref_isZero_1 rfl (lv_at hl 1 rfl) ?_
  refine rv_l (As := [.long a0]) (rest := []) hq hA hP hS (c_Ref_size l A ad D cB cJ o r hne hA cd la lo hi re wi fr bi mi am we f a0) kB_Ref_size wt_570 ⟨rfl, rfl, Nat.le_of_ble_eq_true rfl, Nat.le_of_ble_eq_true rfl⟩ rfl hl.1 rfl (Nat.le_of_ble_eq_true rfl) d_Ref_isZero_2 ⟨Nat.zero_le _, Nat.zero_le _⟩ (fun H locs hP hS => ?_)
  refine lv_lconst (v := (0 : Int64)) hx hb d_Ref_isZero_5 (by decide) ?_
  refine W.lcmp hx hb d_Ref_isZero_6 ?_
  refine jn_ (J := 15) (ls := ls) (v := .int (if (q_Ref_size wi a0) = (0 : Int64) then (1 : Int32) else (0 : Int32))) (rest := []) (fun hj => ?_) ?_
  · refine lv_if_ne (tgt := 14) hx hb d_Ref_isZero_7 (by decide) (fun c_1 => ?_) (fun c_1 => ?_)
    · rw [lg_cmp_eq] at c_1
      refine lv_iconst (v := (0 : Int32)) hx hb d_Ref_isZero_14 (by decide) ?_
      exact (by rw [if_neg c_1] at hj; exact hj)
    · rw [lg_cmp_eq] at c_1
      refine lv_iconst (v := (1 : Int32)) hx hb d_Ref_isZero_10 (by decide) ?_
      refine lv_goto (tgt := 15) hx hb d_Ref_isZero_11 (by decide) ?_
      exact (by rw [if_pos c_1] at hj; exact hj)
  exact rr_z hq hr hk (nb_ (by (repeat' split) <;> first | exact Or.inl rfl | exact Or.inr rfl)) hP hS (by unfold q_Ref_isZero; exact (rfl).symm) rfl rfl d_Ref_isZero_15
def q_Ref_split_mi (wi : Int32) (fr : Int32) (bi : Int32) (a0 : Int64) : Int32 :=
  (q_Ref_isMinus wi a0)
theorem zb_Ref_split_mi (wi : Int32) (fr : Int32) (bi : Int32) (a0 : Int64) : q_Ref_split_mi wi fr bi a0 = 0 ∨ q_Ref_split_mi wi fr bi a0 = 1 := by
  unfold q_Ref_split_mi
  repeat' split
  all_goals first | exact Or.inl rfl | exact Or.inr rfl | exact zb_Ref_isMinus wi a0
def q_Ref_split_am (wi : Int32) (fr : Int32) (bi : Int32) (a0 : Int64) : Int64 :=
  (if (shr_ (q_Ref_size wi a0) fr) = (0 : Int64) then (a0 &&& ((shl_ (1 : Int64) fr) - (1 : Int64))) else ((a0 &&& ((shl_ (1 : Int64) fr) - (1 : Int64))) + (shl_ (1 : Int64) fr)))
def q_Ref_split_we (wi : Int32) (fr : Int32) (bi : Int32) (a0 : Int64) : Int32 :=
  (((if (shr_ (q_Ref_size wi a0) fr) = (0 : Int64) then (1 : Int32) else (Int64.toInt32 (shr_ (q_Ref_size wi a0) fr))) - bi) - fr)
theorem kB_Ref_split : RB y_Ref_split b_Ref_split 7 none 1 := ⟨wt_590, wt_589, wt_10, wt_36, by decide +kernel⟩
set_option maxHeartbeats 4000000 in
set_option maxRecDepth 100000 in
theorem c_Ref_split (l : Launch) (A : Nat → Prop) (ad : Nat → Nat) (D : va_G) (cB cJ : ClassId) (o r : Nat) (hne : o ≠ r) (hA : ∀ q, rA o r q → A q) (cd : Int32) (la : Int64) (lo : Int32) (hi : Int32) (re : Int32) (wi : Int32) (fr : Int32) (bi : Int32) (mi : Int32) (am : Int64) (we : Int32) (f : Nat → Int32) (a0 : Int64) : Met l y_Ref_split (Cond.code y_Ref_split b_Ref_split 7 none :: BT) ({ frames := 1, cells := 0, slots := 0, locals := 22 }) (PR A ad D cB cJ o r (rf_ cd la r lo hi re wi fr bi mi am we) f [.long a0]) (QRv D cB o r (rf_ cd la r lo hi re wi fr bi (q_Ref_split_mi wi fr bi a0) (q_Ref_split_am wi fr bi a0) (q_Ref_split_we wi fr bi a0)) f) 0 0 (rA o r) := by
  refine pr_ (by decide) (Nat.le_of_ble_eq_true rfl) ?_
  intro p e s m below meth c hq hP hS hr hk ls hl
  have hx := hq.1
  have hb := hq.2.1
  have hts := hq.2.2.2.2.1
  have hl : lv_has ls 7 [(0, .ref o), (1, .long a0)] := hl
  refine lv_aload_n hx hb d_Ref_split_0 rfl (lv_at hl 0 rfl) ?_
  refine lv_lload_n hx hb d_Ref_split_1 rfl (lv_at hl 1 rfl) ?_
  refine rv_l (As := [.long a0]) (rest := []) hq hA hP hS (c_Ref_size l A ad D cB cJ o r hne hA cd la lo hi re wi fr bi mi am we f a0) kB_Ref_size wt_570 ⟨rfl, rfl, Nat.le_of_ble_eq_true rfl, Nat.le_of_ble_eq_true rfl⟩ rfl hl.1 rfl (Nat.le_of_ble_eq_true rfl) d_Ref_split_2 ⟨Nat.zero_le _, Nat.zero_le _⟩ (fun H locs hP hS => ?_)
  refine lv_aload_n hx hb d_Ref_split_5 rfl (lv_at hl 0 rfl) ?_
  refine rg_ 7 hq hP (by decide) wt_491 rfl rfl d_Ref_split_6 ?_
  refine lv_lshr (v := (shr_ (q_Ref_size wi a0) fr)) hx hb d_Ref_split_9 rfl ?_
  refine lv_lstore_n (lv' := [(3, .long (shr_ (q_Ref_size wi a0) fr)), (0, .ref o), (1, .long a0)]) hx hb d_Ref_split_10 rfl hl (by decide) rfl (fun ls hl => ?_)
  refine lv_lload_n hx hb d_Ref_split_11 rfl (lv_at hl 2 rfl) ?_
  refine lv_lconst (v := (1 : Int64)) hx hb d_Ref_split_12 (by decide) ?_
  refine lv_aload_n hx hb d_Ref_split_13 rfl (lv_at hl 1 rfl) ?_
  refine rg_ 7 hq hP (by decide) wt_491 rfl rfl d_Ref_split_14 ?_
  refine lv_lshl (v := (shl_ (1 : Int64) fr)) hx hb d_Ref_split_17 rfl ?_
  refine lv_lconst (v := (1 : Int64)) hx hb d_Ref_split_18 (by decide) ?_
  refine lv_lsub hx hb d_Ref_split_19 ?_
  refine lv_land hx hb d_Ref_split_20 ?_
  refine lv_lstore (lv' := [(5, .long (a0 &&& ((shl_ (1 : Int64) fr) - (1 : Int64)))), (3, .long (shr_ (q_Ref_size wi a0) fr)), (0, .ref o), (1, .long a0)]) hx hb d_Ref_split_21 hl (by decide) rfl (fun ls hl => ?_)
  refine lv_aload_n hx hb d_Ref_split_23 rfl (lv_at hl 2 rfl) ?_
  refine lv_aload_n hx hb d_Ref_split_24 rfl (lv_at hl 2 rfl) ?_
  refine lv_lload_n hx hb d_Ref_split_25 rfl (lv_at hl 3 rfl) ?_
  refine rv_i (As := [.long a0]) (rest := [.ref o]) hq hA hP hS (c_Ref_isMinus l A ad D cB cJ o r hne hA cd la lo hi re wi fr bi mi am we f a0) kB_Ref_isMinus wt_591 ⟨rfl, rfl, Nat.le_of_ble_eq_true rfl, Nat.le_of_ble_eq_true rfl⟩ rfl hl.1 rfl (Nat.le_of_ble_eq_true rfl) d_Ref_split_26 ⟨Nat.zero_le _, Nat.zero_le _⟩ (fun H locs hP hS => ?_)
  refine rp_ 9 (ty := tR 9) hq hne hP hS (by decide) wt_493 rfl rfl rfl (nb_ (zb_Ref_isMinus wi a0)) (nf_ (zb_Ref_isMinus wi a0)) (Nat.le_of_ble_eq_true rfl) d_Ref_split_29 (fun H locs hP hS => ?_)
  have hP : va_P D clR (rw_ o r cB (rf_ cd la r lo hi re wi fr bi (q_Ref_isMinus wi a0) am we) f) H := hP
  refine lv_aload_n hx hb d_Ref_split_32 rfl (lv_at hl 2 rfl) ?_
  refine lv_lload_n hx hb d_Ref_split_33 rfl (lv_at hl 1 rfl) ?_
  refine lv_lconst (v := (0 : Int64)) hx hb d_Ref_split_34 (by decide) ?_
  refine W.lcmp hx hb d_Ref_split_35 ?_
  refine jn_ (J := 53) (ls := ls) (v := .long (if (shr_ (q_Ref_size wi a0) fr) = (0 : Int64) then (a0 &&& ((shl_ (1 : Int64) fr) - (1 : Int64))) else ((a0 &&& ((shl_ (1 : Int64) fr) - (1 : Int64))) + (shl_ (1 : Int64) fr)))) (rest := [.ref o]) (fun hj => ?_) ?_
  · refine lv_if_ne (tgt := 44) hx hb d_Ref_split_36 (by decide) (fun c_1 => ?_) (fun c_1 => ?_)
    · rw [lg_cmp_eq] at c_1
      refine lv_lload hx hb d_Ref_split_44 (lv_at hl 0 rfl) ?_
      refine lv_lconst (v := (1 : Int64)) hx hb d_Ref_split_46 (by decide) ?_
      refine lv_aload_n hx hb d_Ref_split_47 rfl (lv_at hl 2 rfl) ?_
      refine rg_ 7 hq hP (by decide) wt_491 rfl rfl d_Ref_split_48 ?_
      refine lv_lshl (v := (shl_ (1 : Int64) fr)) hx hb d_Ref_split_51 rfl ?_
      refine lv_ladd hx hb d_Ref_split_52 ?_
      exact (by rw [if_neg c_1] at hj; exact hj)
    · rw [lg_cmp_eq] at c_1
      refine lv_lload hx hb d_Ref_split_39 (lv_at hl 0 rfl) ?_
      refine lv_goto (tgt := 53) hx hb d_Ref_split_41 (by decide) ?_
      exact (by rw [if_pos c_1] at hj; exact hj)
  refine rp_ 10 (ty := tR 10) hq hne hP hS (by decide) wt_494 rfl rfl rfl rfl rfl (Nat.le_of_ble_eq_true rfl) d_Ref_split_53 (fun H locs hP hS => ?_)
  have hP : va_P D clR (rw_ o r cB (rf_ cd la r lo hi re wi fr bi (q_Ref_isMinus wi a0) (if (shr_ (q_Ref_size wi a0) fr) = (0 : Int64) then (a0 &&& ((shl_ (1 : Int64) fr) - (1 : Int64))) else ((a0 &&& ((shl_ (1 : Int64) fr) - (1 : Int64))) + (shl_ (1 : Int64) fr))) we) f) H := hP
  refine lv_aload_n hx hb d_Ref_split_56 rfl (lv_at hl 2 rfl) ?_
  refine lv_lload_n hx hb d_Ref_split_57 rfl (lv_at hl 1 rfl) ?_
  refine lv_lconst (v := (0 : Int64)) hx hb d_Ref_split_58 (by decide) ?_
  refine W.lcmp hx hb d_Ref_split_59 ?_
  refine jn_ (J := 69) (ls := ls) (v := .int (if (shr_ (q_Ref_size wi a0) fr) = (0 : Int64) then (1 : Int32) else (Int64.toInt32 (shr_ (q_Ref_size wi a0) fr)))) (rest := [.ref o]) (fun hj => ?_) ?_
  · refine lv_if_ne (tgt := 67) hx hb d_Ref_split_60 (by decide) (fun c_2 => ?_) (fun c_2 => ?_)
    · rw [lg_cmp_eq] at c_2
      refine lv_lload_n hx hb d_Ref_split_67 rfl (lv_at hl 1 rfl) ?_
      refine lv_l2i (v := (Int64.toInt32 (shr_ (q_Ref_size wi a0) fr))) hx hb d_Ref_split_68 rfl ?_
      exact (by rw [if_neg c_2] at hj; exact hj)
    · rw [lg_cmp_eq] at c_2
      refine lv_iconst (v := (1 : Int32)) hx hb d_Ref_split_63 (by decide) ?_
      refine lv_goto (tgt := 69) hx hb d_Ref_split_64 (by decide) ?_
      exact (by rw [if_pos c_2] at hj; exact hj)
  refine lv_aload_n hx hb d_Ref_split_69 rfl (lv_at hl 2 rfl) ?_
  refine rg_ 8 hq hP (by decide) wt_492 rfl rfl d_Ref_split_70 ?_
  refine lv_isub hx hb d_Ref_split_73 ?_
  refine lv_aload_n hx hb d_Ref_split_74 rfl (lv_at hl 2 rfl) ?_
  refine rg_ 7 hq hP (by decide) wt_491 rfl rfl d_Ref_split_75 ?_
  refine lv_isub hx hb d_Ref_split_78 ?_
  refine rp_ 11 (ty := tR 11) hq hne hP hS (by decide) wt_495 rfl rfl rfl rfl rfl (Nat.le_of_ble_eq_true rfl) d_Ref_split_79 (fun H locs hP hS => ?_)
  have hP : va_P D clR (rw_ o r cB (rf_ cd la r lo hi re wi fr bi (q_Ref_isMinus wi a0) (if (shr_ (q_Ref_size wi a0) fr) = (0 : Int64) then (a0 &&& ((shl_ (1 : Int64) fr) - (1 : Int64))) else ((a0 &&& ((shl_ (1 : Int64) fr) - (1 : Int64))) + (shl_ (1 : Int64) fr))) (((if (shr_ (q_Ref_size wi a0) fr) = (0 : Int64) then (1 : Int32) else (Int64.toInt32 (shr_ (q_Ref_size wi a0) fr))) - bi) - fr)) f) H := hP
  exact rr_v hq hr hk  hP hS  (by rw [show q_Ref_split_mi wi fr bi a0 = (q_Ref_isMinus wi a0) from by unfold q_Ref_split_mi; exact rfl, show q_Ref_split_am wi fr bi a0 = (if (shr_ (q_Ref_size wi a0) fr) = (0 : Int64) then (a0 &&& ((shl_ (1 : Int64) fr) - (1 : Int64))) else ((a0 &&& ((shl_ (1 : Int64) fr) - (1 : Int64))) + (shl_ (1 : Int64) fr))) from by unfold q_Ref_split_am; exact rfl, show q_Ref_split_we wi fr bi a0 = (((if (shr_ (q_Ref_size wi a0) fr) = (0 : Int64) then (1 : Int32) else (Int64.toInt32 (shr_ (q_Ref_size wi a0) fr))) - bi) - fr) from by unfold q_Ref_split_we; exact rfl]) rfl d_Ref_split_82
def q_Ref_less (wi : Int32) (a0 : Int64) (a1 : Int32) (a2 : Int64) : Int32 :=
  if (q_Ref_isMinus wi a0) = 0 then
    if (q_Ref_isMinus wi a2) = 0 then
      (if (q_Ref_size wi a0) < (q_Ref_size wi a2) then (1 : Int32) else (if a1 = 0 then (0 : Int32) else (if (q_Ref_size wi a0) = (q_Ref_size wi a2) then (1 : Int32) else (0 : Int32))))
    else
      (if (q_Ref_size wi a0) < (-(q_Ref_size wi a2)) then (1 : Int32) else (if a1 = 0 then (0 : Int32) else (if (q_Ref_size wi a0) = (-(q_Ref_size wi a2)) then (1 : Int32) else (0 : Int32))))
  else
    if (q_Ref_isMinus wi a2) = 0 then
      (if (-(q_Ref_size wi a0)) < (q_Ref_size wi a2) then (1 : Int32) else (if a1 = 0 then (0 : Int32) else (if (-(q_Ref_size wi a0)) = (q_Ref_size wi a2) then (1 : Int32) else (0 : Int32))))
    else
      (if (-(q_Ref_size wi a0)) < (-(q_Ref_size wi a2)) then (1 : Int32) else (if a1 = 0 then (0 : Int32) else (if (-(q_Ref_size wi a0)) = (-(q_Ref_size wi a2)) then (1 : Int32) else (0 : Int32))))
theorem zb_Ref_less (wi : Int32) (a0 : Int64) (a1 : Int32) (a2 : Int64) : q_Ref_less wi a0 a1 a2 = 0 ∨ q_Ref_less wi a0 a1 a2 = 1 := by
  unfold q_Ref_less
  repeat' split
  all_goals first | exact Or.inl rfl | exact Or.inr rfl
theorem kB_Ref_less : RB y_Ref_less b_Ref_less 10 (some .boolean) 3 := ⟨wt_682, wt_681, wt_30, wt_36, by decide +kernel⟩
set_option maxHeartbeats 4000000 in
set_option maxRecDepth 100000 in
theorem c_Ref_less (l : Launch) (A : Nat → Prop) (ad : Nat → Nat) (D : va_G) (cB cJ : ClassId) (o r : Nat) (hne : o ≠ r) (hA : ∀ q, rA o r q → A q) (cd : Int32) (la : Int64) (lo : Int32) (hi : Int32) (re : Int32) (wi : Int32) (fr : Int32) (bi : Int32) (mi : Int32) (am : Int64) (we : Int32) (f : Nat → Int32) (a0 : Int64) (a1 : Int32) (a2 : Int64) : Met l y_Ref_less (Cond.code y_Ref_less b_Ref_less 10 (some .boolean) :: BT) ({ frames := 1, cells := 0, slots := 0, locals := 22 }) (PR A ad D cB cJ o r (rf_ cd la r lo hi re wi fr bi mi am we) f [.long a0, .int a1, .long a2]) (QRi D cB o r (q_Ref_less wi a0 a1 a2) (rf_ cd la r lo hi re wi fr bi mi am we) f) 0 0 (rA o r) := by
  refine pr_ (by decide) (Nat.le_of_ble_eq_true rfl) ?_
  intro p e s m below meth c hq hP hS hr hk ls hl
  have hx := hq.1
  have hb := hq.2.1
  have hts := hq.2.2.2.2.1
  have hl : lv_has ls 10 [(0, .ref o), (1, .long a0), (3, .int a1), (4, .long a2)] := hl
  refine lv_aload_n hx hb d_Ref_less_0 rfl (lv_at hl 0 rfl) ?_
  refine lv_lload_n hx hb d_Ref_less_1 rfl (lv_at hl 1 rfl) ?_
  refine rv_i (As := [.long a0]) (rest := []) hq hA hP hS (c_Ref_isMinus l A ad D cB cJ o r hne hA cd la lo hi re wi fr bi mi am we f a0) kB_Ref_isMinus wt_591 ⟨rfl, rfl, Nat.le_of_ble_eq_true rfl, Nat.le_of_ble_eq_true rfl⟩ rfl hl.1 rfl (Nat.le_of_ble_eq_true rfl) d_Ref_less_2 ⟨Nat.zero_le _, Nat.zero_le _⟩ (fun H locs hP hS => ?_)
  refine lv_if_eq (tgt := 17) hx hb d_Ref_less_5 (by decide) (fun c_1 => ?_) (fun c_1 => ?_)
  · refine lv_aload_n hx hb d_Ref_less_17 rfl (lv_at hl 0 rfl) ?_
    refine lv_lload_n hx hb d_Ref_less_18 rfl (lv_at hl 1 rfl) ?_
    refine rv_l (As := [.long a0]) (rest := []) hq hA hP hS (c_Ref_size l A ad D cB cJ o r hne hA cd la lo hi re wi fr bi mi am we f a0) kB_Ref_size wt_570 ⟨rfl, rfl, Nat.le_of_ble_eq_true rfl, Nat.le_of_ble_eq_true rfl⟩ rfl hl.1 rfl (Nat.le_of_ble_eq_true rfl) d_Ref_less_19 ⟨Nat.zero_le _, Nat.zero_le _⟩ (fun H locs hP hS => ?_)
    refine lv_lstore (lv' := [(6, .long (q_Ref_size wi a0)), (0, .ref o), (1, .long a0), (3, .int a1), (4, .long a2)]) hx hb d_Ref_less_22 hl (by decide) rfl (fun ls hl => ?_)
    refine lv_aload_n hx hb d_Ref_less_24 rfl (lv_at hl 1 rfl) ?_
    refine lv_lload hx hb d_Ref_less_25 (lv_at hl 4 rfl) ?_
    refine rv_i (As := [.long a2]) (rest := []) hq hA hP hS (c_Ref_isMinus l A ad D cB cJ o r hne hA cd la lo hi re wi fr bi mi am we f a2) kB_Ref_isMinus wt_591 ⟨rfl, rfl, Nat.le_of_ble_eq_true rfl, Nat.le_of_ble_eq_true rfl⟩ rfl hl.1 rfl (Nat.le_of_ble_eq_true rfl) d_Ref_less_27 ⟨Nat.zero_le _, Nat.zero_le _⟩ (fun H locs hP hS => ?_)
    refine lv_if_eq (tgt := 43) hx hb d_Ref_less_30 (by decide) (fun c_2 => ?_) (fun c_2 => ?_)
    · refine lv_aload_n hx hb d_Ref_less_43 rfl (lv_at hl 1 rfl) ?_
      refine lv_lload hx hb d_Ref_less_44 (lv_at hl 4 rfl) ?_
      refine rv_l (As := [.long a2]) (rest := []) hq hA hP hS (c_Ref_size l A ad D cB cJ o r hne hA cd la lo hi re wi fr bi mi am we f a2) kB_Ref_size wt_570 ⟨rfl, rfl, Nat.le_of_ble_eq_true rfl, Nat.le_of_ble_eq_true rfl⟩ rfl hl.1 rfl (Nat.le_of_ble_eq_true rfl) d_Ref_less_46 ⟨Nat.zero_le _, Nat.zero_le _⟩ (fun H locs hP hS => ?_)
      refine lv_lstore (lv' := [(8, .long (q_Ref_size wi a2)), (6, .long (q_Ref_size wi a0)), (0, .ref o), (1, .long a0), (3, .int a1), (4, .long a2)]) hx hb d_Ref_less_49 hl (by decide) rfl (fun ls hl => ?_)
      refine lv_lload hx hb d_Ref_less_51 (lv_at hl 1 rfl) ?_
      refine lv_lload hx hb d_Ref_less_53 (lv_at hl 0 rfl) ?_
      refine W.lcmp hx hb d_Ref_less_55 ?_
      refine jn_ (J := 76) (ls := ls) (v := .int (if (q_Ref_size wi a0) < (q_Ref_size wi a2) then (1 : Int32) else (if a1 = 0 then (0 : Int32) else (if (q_Ref_size wi a0) = (q_Ref_size wi a2) then (1 : Int32) else (0 : Int32))))) (rest := []) (fun hj => ?_) ?_
      · refine lv_if_lt (tgt := 71) hx hb d_Ref_less_56 (by decide) (fun c_3 => ?_) (fun c_3 => ?_)
        · rw [lg_cmp_lt] at c_3
          refine lv_iconst (v := (1 : Int32)) hx hb d_Ref_less_71 (by decide) ?_
          refine lv_goto (tgt := 76) hx hb d_Ref_less_72 (by decide) ?_
          exact (by rw [if_pos c_3] at hj; exact hj)
        · rw [lg_cmp_lt] at c_3
          refine lv_iload_n hx hb d_Ref_less_59 rfl (lv_at hl 4 rfl) ?_
          refine jn_ (J := 76) (ls := ls) (v := .int (if a1 = 0 then (0 : Int32) else (if (q_Ref_size wi a0) = (q_Ref_size wi a2) then (1 : Int32) else (0 : Int32)))) (rest := []) (fun hj => ?_) ?_
          · refine lv_if_eq (tgt := 75) hx hb d_Ref_less_60 (by decide) (fun c_4 => ?_) (fun c_4 => ?_)
            · refine lv_iconst (v := (0 : Int32)) hx hb d_Ref_less_75 (by decide) ?_
              exact (by rw [if_pos c_4] at hj; exact hj)
            · refine lv_lload hx hb d_Ref_less_63 (lv_at hl 1 rfl) ?_
              refine lv_lload hx hb d_Ref_less_65 (lv_at hl 0 rfl) ?_
              refine W.lcmp hx hb d_Ref_less_67 ?_
              refine jn_ (J := 76) (ls := ls) (v := .int (if (q_Ref_size wi a0) = (q_Ref_size wi a2) then (1 : Int32) else (0 : Int32))) (rest := []) (fun hj => ?_) ?_
              · refine lv_if_ne (tgt := 75) hx hb d_Ref_less_68 (by decide) (fun c_5 => ?_) (fun c_5 => ?_)
                · rw [lg_cmp_eq] at c_5
                  refine lv_iconst (v := (0 : Int32)) hx hb d_Ref_less_75 (by decide) ?_
                  exact (by rw [if_neg c_5] at hj; exact hj)
                · rw [lg_cmp_eq] at c_5
                  refine lv_iconst (v := (1 : Int32)) hx hb d_Ref_less_71 (by decide) ?_
                  refine lv_goto (tgt := 76) hx hb d_Ref_less_72 (by decide) ?_
                  exact (by rw [if_pos c_5] at hj; exact hj)
              exact (by rw [if_neg c_4] at hj; exact hj)
          exact (by rw [if_neg c_3] at hj; exact hj)
      exact rr_z hq hr hk (nb_ (by (repeat' split) <;> first | exact Or.inl rfl | exact Or.inr rfl)) hP hS (by unfold q_Ref_less; exact (((if_pos c_1).trans ((if_pos c_2).trans rfl))).symm) rfl rfl d_Ref_less_76
    · refine lv_aload_n hx hb d_Ref_less_33 rfl (lv_at hl 1 rfl) ?_
      refine lv_lload hx hb d_Ref_less_34 (lv_at hl 4 rfl) ?_
      refine rv_l (As := [.long a2]) (rest := []) hq hA hP hS (c_Ref_size l A ad D cB cJ o r hne hA cd la lo hi re wi fr bi mi am we f a2) kB_Ref_size wt_570 ⟨rfl, rfl, Nat.le_of_ble_eq_true rfl, Nat.le_of_ble_eq_true rfl⟩ rfl hl.1 rfl (Nat.le_of_ble_eq_true rfl) d_Ref_less_36 ⟨Nat.zero_le _, Nat.zero_le _⟩ (fun H locs hP hS => ?_)
      refine lv_lneg hx hb d_Ref_less_39 ?_
      refine lv_goto (tgt := 49) hx hb d_Ref_less_40 (by decide) ?_
      refine lv_lstore (lv' := [(8, .long (-(q_Ref_size wi a2))), (6, .long (q_Ref_size wi a0)), (0, .ref o), (1, .long a0), (3, .int a1), (4, .long a2)]) hx hb d_Ref_less_49 hl (by decide) rfl (fun ls hl => ?_)
      refine lv_lload hx hb d_Ref_less_51 (lv_at hl 1 rfl) ?_
      refine lv_lload hx hb d_Ref_less_53 (lv_at hl 0 rfl) ?_
      refine W.lcmp hx hb d_Ref_less_55 ?_
      refine jn_ (J := 76) (ls := ls) (v := .int (if (q_Ref_size wi a0) < (-(q_Ref_size wi a2)) then (1 : Int32) else (if a1 = 0 then (0 : Int32) else (if (q_Ref_size wi a0) = (-(q_Ref_size wi a2)) then (1 : Int32) else (0 : Int32))))) (rest := []) (fun hj => ?_) ?_
      · refine lv_if_lt (tgt := 71) hx hb d_Ref_less_56 (by decide) (fun c_6 => ?_) (fun c_6 => ?_)
        · rw [lg_cmp_lt] at c_6
          refine lv_iconst (v := (1 : Int32)) hx hb d_Ref_less_71 (by decide) ?_
          refine lv_goto (tgt := 76) hx hb d_Ref_less_72 (by decide) ?_
          exact (by rw [if_pos c_6] at hj; exact hj)
        · rw [lg_cmp_lt] at c_6
          refine lv_iload_n hx hb d_Ref_less_59 rfl (lv_at hl 4 rfl) ?_
          refine jn_ (J := 76) (ls := ls) (v := .int (if a1 = 0 then (0 : Int32) else (if (q_Ref_size wi a0) = (-(q_Ref_size wi a2)) then (1 : Int32) else (0 : Int32)))) (rest := []) (fun hj => ?_) ?_
          · refine lv_if_eq (tgt := 75) hx hb d_Ref_less_60 (by decide) (fun c_7 => ?_) (fun c_7 => ?_)
            · refine lv_iconst (v := (0 : Int32)) hx hb d_Ref_less_75 (by decide) ?_
              exact (by rw [if_pos c_7] at hj; exact hj)
            · refine lv_lload hx hb d_Ref_less_63 (lv_at hl 1 rfl) ?_
              refine lv_lload hx hb d_Ref_less_65 (lv_at hl 0 rfl) ?_
              refine W.lcmp hx hb d_Ref_less_67 ?_
              refine jn_ (J := 76) (ls := ls) (v := .int (if (q_Ref_size wi a0) = (-(q_Ref_size wi a2)) then (1 : Int32) else (0 : Int32))) (rest := []) (fun hj => ?_) ?_
              · refine lv_if_ne (tgt := 75) hx hb d_Ref_less_68 (by decide) (fun c_8 => ?_) (fun c_8 => ?_)
                · rw [lg_cmp_eq] at c_8
                  refine lv_iconst (v := (0 : Int32)) hx hb d_Ref_less_75 (by decide) ?_
                  exact (by rw [if_neg c_8] at hj; exact hj)
                · rw [lg_cmp_eq] at c_8
                  refine lv_iconst (v := (1 : Int32)) hx hb d_Ref_less_71 (by decide) ?_
                  refine lv_goto (tgt := 76) hx hb d_Ref_less_72 (by decide) ?_
                  exact (by rw [if_pos c_8] at hj; exact hj)
              exact (by rw [if_neg c_7] at hj; exact hj)
          exact (by rw [if_neg c_6] at hj; exact hj)
      exact rr_z hq hr hk (nb_ (by (repeat' split) <;> first | exact Or.inl rfl | exact Or.inr rfl)) hP hS (by unfold q_Ref_less; exact (((if_pos c_1).trans ((if_neg c_2).trans rfl))).symm) rfl rfl d_Ref_less_76
  · refine lv_aload_n hx hb d_Ref_less_8 rfl (lv_at hl 0 rfl) ?_
    refine lv_lload_n hx hb d_Ref_less_9 rfl (lv_at hl 1 rfl) ?_
    refine rv_l (As := [.long a0]) (rest := []) hq hA hP hS (c_Ref_size l A ad D cB cJ o r hne hA cd la lo hi re wi fr bi mi am we f a0) kB_Ref_size wt_570 ⟨rfl, rfl, Nat.le_of_ble_eq_true rfl, Nat.le_of_ble_eq_true rfl⟩ rfl hl.1 rfl (Nat.le_of_ble_eq_true rfl) d_Ref_less_10 ⟨Nat.zero_le _, Nat.zero_le _⟩ (fun H locs hP hS => ?_)
    refine lv_lneg hx hb d_Ref_less_13 ?_
    refine lv_goto (tgt := 22) hx hb d_Ref_less_14 (by decide) ?_
    refine lv_lstore (lv' := [(6, .long (-(q_Ref_size wi a0))), (0, .ref o), (1, .long a0), (3, .int a1), (4, .long a2)]) hx hb d_Ref_less_22 hl (by decide) rfl (fun ls hl => ?_)
    refine lv_aload_n hx hb d_Ref_less_24 rfl (lv_at hl 1 rfl) ?_
    refine lv_lload hx hb d_Ref_less_25 (lv_at hl 4 rfl) ?_
    refine rv_i (As := [.long a2]) (rest := []) hq hA hP hS (c_Ref_isMinus l A ad D cB cJ o r hne hA cd la lo hi re wi fr bi mi am we f a2) kB_Ref_isMinus wt_591 ⟨rfl, rfl, Nat.le_of_ble_eq_true rfl, Nat.le_of_ble_eq_true rfl⟩ rfl hl.1 rfl (Nat.le_of_ble_eq_true rfl) d_Ref_less_27 ⟨Nat.zero_le _, Nat.zero_le _⟩ (fun H locs hP hS => ?_)
    refine lv_if_eq (tgt := 43) hx hb d_Ref_less_30 (by decide) (fun c_9 => ?_) (fun c_9 => ?_)
    · refine lv_aload_n hx hb d_Ref_less_43 rfl (lv_at hl 1 rfl) ?_
      refine lv_lload hx hb d_Ref_less_44 (lv_at hl 4 rfl) ?_
      refine rv_l (As := [.long a2]) (rest := []) hq hA hP hS (c_Ref_size l A ad D cB cJ o r hne hA cd la lo hi re wi fr bi mi am we f a2) kB_Ref_size wt_570 ⟨rfl, rfl, Nat.le_of_ble_eq_true rfl, Nat.le_of_ble_eq_true rfl⟩ rfl hl.1 rfl (Nat.le_of_ble_eq_true rfl) d_Ref_less_46 ⟨Nat.zero_le _, Nat.zero_le _⟩ (fun H locs hP hS => ?_)
      refine lv_lstore (lv' := [(8, .long (q_Ref_size wi a2)), (6, .long (-(q_Ref_size wi a0))), (0, .ref o), (1, .long a0), (3, .int a1), (4, .long a2)]) hx hb d_Ref_less_49 hl (by decide) rfl (fun ls hl => ?_)
      refine lv_lload hx hb d_Ref_less_51 (lv_at hl 1 rfl) ?_
      refine lv_lload hx hb d_Ref_less_53 (lv_at hl 0 rfl) ?_
      refine W.lcmp hx hb d_Ref_less_55 ?_
      refine jn_ (J := 76) (ls := ls) (v := .int (if (-(q_Ref_size wi a0)) < (q_Ref_size wi a2) then (1 : Int32) else (if a1 = 0 then (0 : Int32) else (if (-(q_Ref_size wi a0)) = (q_Ref_size wi a2) then (1 : Int32) else (0 : Int32))))) (rest := []) (fun hj => ?_) ?_
      · refine lv_if_lt (tgt := 71) hx hb d_Ref_less_56 (by decide) (fun c_10 => ?_) (fun c_10 => ?_)
        · rw [lg_cmp_lt] at c_10
          refine lv_iconst (v := (1 : Int32)) hx hb d_Ref_less_71 (by decide) ?_
          refine lv_goto (tgt := 76) hx hb d_Ref_less_72 (by decide) ?_
          exact (by rw [if_pos c_10] at hj; exact hj)
        · rw [lg_cmp_lt] at c_10
          refine lv_iload_n hx hb d_Ref_less_59 rfl (lv_at hl 4 rfl) ?_
          refine jn_ (J := 76) (ls := ls) (v := .int (if a1 = 0 then (0 : Int32) else (if (-(q_Ref_size wi a0)) = (q_Ref_size wi a2) then (1 : Int32) else (0 : Int32)))) (rest := []) (fun hj => ?_) ?_
          · refine lv_if_eq (tgt := 75) hx hb d_Ref_less_60 (by decide) (fun c_11 => ?_) (fun c_11 => ?_)
            · refine lv_iconst (v := (0 : Int32)) hx hb d_Ref_less_75 (by decide) ?_
              exact (by rw [if_pos c_11] at hj; exact hj)
            · refine lv_lload hx hb d_Ref_less_63 (lv_at hl 1 rfl) ?_
              refine lv_lload hx hb d_Ref_less_65 (lv_at hl 0 rfl) ?_
              refine W.lcmp hx hb d_Ref_less_67 ?_
              refine jn_ (J := 76) (ls := ls) (v := .int (if (-(q_Ref_size wi a0)) = (q_Ref_size wi a2) then (1 : Int32) else (0 : Int32))) (rest := []) (fun hj => ?_) ?_
              · refine lv_if_ne (tgt := 75) hx hb d_Ref_less_68 (by decide) (fun c_12 => ?_) (fun c_12 => ?_)
                · rw [lg_cmp_eq] at c_12
                  refine lv_iconst (v := (0 : Int32)) hx hb d_Ref_less_75 (by decide) ?_
                  exact (by rw [if_neg c_12] at hj; exact hj)
                · rw [lg_cmp_eq] at c_12
                  refine lv_iconst (v := (1 : Int32)) hx hb d_Ref_less_71 (by decide) ?_
                  refine lv_goto (tgt := 76) hx hb d_Ref_less_72 (by decide) ?_
                  exact (by rw [if_pos c_12] at hj; exact hj)
              exact (by rw [if_neg c_11] at hj; exact hj)
          exact (by rw [if_neg c_10] at hj; exact hj)
      exact rr_z hq hr hk (nb_ (by (repeat' split) <;> first | exact Or.inl rfl | exact Or.inr rfl)) hP hS (by unfold q_Ref_less; exact (((if_neg c_1).trans ((if_pos c_9).trans rfl))).symm) rfl rfl d_Ref_less_76
    · refine lv_aload_n hx hb d_Ref_less_33 rfl (lv_at hl 1 rfl) ?_
      refine lv_lload hx hb d_Ref_less_34 (lv_at hl 4 rfl) ?_
      refine rv_l (As := [.long a2]) (rest := []) hq hA hP hS (c_Ref_size l A ad D cB cJ o r hne hA cd la lo hi re wi fr bi mi am we f a2) kB_Ref_size wt_570 ⟨rfl, rfl, Nat.le_of_ble_eq_true rfl, Nat.le_of_ble_eq_true rfl⟩ rfl hl.1 rfl (Nat.le_of_ble_eq_true rfl) d_Ref_less_36 ⟨Nat.zero_le _, Nat.zero_le _⟩ (fun H locs hP hS => ?_)
      refine lv_lneg hx hb d_Ref_less_39 ?_
      refine lv_goto (tgt := 49) hx hb d_Ref_less_40 (by decide) ?_
      refine lv_lstore (lv' := [(8, .long (-(q_Ref_size wi a2))), (6, .long (-(q_Ref_size wi a0))), (0, .ref o), (1, .long a0), (3, .int a1), (4, .long a2)]) hx hb d_Ref_less_49 hl (by decide) rfl (fun ls hl => ?_)
      refine lv_lload hx hb d_Ref_less_51 (lv_at hl 1 rfl) ?_
      refine lv_lload hx hb d_Ref_less_53 (lv_at hl 0 rfl) ?_
      refine W.lcmp hx hb d_Ref_less_55 ?_
      refine jn_ (J := 76) (ls := ls) (v := .int (if (-(q_Ref_size wi a0)) < (-(q_Ref_size wi a2)) then (1 : Int32) else (if a1 = 0 then (0 : Int32) else (if (-(q_Ref_size wi a0)) = (-(q_Ref_size wi a2)) then (1 : Int32) else (0 : Int32))))) (rest := []) (fun hj => ?_) ?_
      · refine lv_if_lt (tgt := 71) hx hb d_Ref_less_56 (by decide) (fun c_13 => ?_) (fun c_13 => ?_)
        · rw [lg_cmp_lt] at c_13
          refine lv_iconst (v := (1 : Int32)) hx hb d_Ref_less_71 (by decide) ?_
          refine lv_goto (tgt := 76) hx hb d_Ref_less_72 (by decide) ?_
          exact (by rw [if_pos c_13] at hj; exact hj)
        · rw [lg_cmp_lt] at c_13
          refine lv_iload_n hx hb d_Ref_less_59 rfl (lv_at hl 4 rfl) ?_
          refine jn_ (J := 76) (ls := ls) (v := .int (if a1 = 0 then (0 : Int32) else (if (-(q_Ref_size wi a0)) = (-(q_Ref_size wi a2)) then (1 : Int32) else (0 : Int32)))) (rest := []) (fun hj => ?_) ?_
          · refine lv_if_eq (tgt := 75) hx hb d_Ref_less_60 (by decide) (fun c_14 => ?_) (fun c_14 => ?_)
            · refine lv_iconst (v := (0 : Int32)) hx hb d_Ref_less_75 (by decide) ?_
              exact (by rw [if_pos c_14] at hj; exact hj)
            · refine lv_lload hx hb d_Ref_less_63 (lv_at hl 1 rfl) ?_
              refine lv_lload hx hb d_Ref_less_65 (lv_at hl 0 rfl) ?_
              refine W.lcmp hx hb d_Ref_less_67 ?_
              refine jn_ (J := 76) (ls := ls) (v := .int (if (-(q_Ref_size wi a0)) = (-(q_Ref_size wi a2)) then (1 : Int32) else (0 : Int32))) (rest := []) (fun hj => ?_) ?_
              · refine lv_if_ne (tgt := 75) hx hb d_Ref_less_68 (by decide) (fun c_15 => ?_) (fun c_15 => ?_)
                · rw [lg_cmp_eq] at c_15
                  refine lv_iconst (v := (0 : Int32)) hx hb d_Ref_less_75 (by decide) ?_
                  exact (by rw [if_neg c_15] at hj; exact hj)
                · rw [lg_cmp_eq] at c_15
                  refine lv_iconst (v := (1 : Int32)) hx hb d_Ref_less_71 (by decide) ?_
                  refine lv_goto (tgt := 76) hx hb d_Ref_less_72 (by decide) ?_
                  exact (by rw [if_pos c_15] at hj; exact hj)
              exact (by rw [if_neg c_14] at hj; exact hj)
          exact (by rw [if_neg c_13] at hj; exact hj)
      exact rr_z hq hr hk (nb_ (by (repeat' split) <;> first | exact Or.inl rfl | exact Or.inr rfl)) hP hS (by unfold q_Ref_less; exact (((if_neg c_1).trans ((if_neg c_9).trans rfl))).symm) rfl rfl d_Ref_less_76
def q_Ref_compared (wi : Int32) (fr : Int32) (bi : Int32) (a0 : Int32) (a1 : Int64) (a2 : Int64) : Int32 :=
  if (q_Ref_isNone wi fr bi a1) = 0 then
    if (q_Ref_isNone wi fr bi a2) = 0 then
      if (q_Ref_less wi a1 (1 : Int32) a2) = 0 then
        if a0 = (0 : Int32) then
          (0 : Int32)
        else
          if a0 = (1 : Int32) then
            (1 : Int32)
          else
            if a0 = (2 : Int32) then
              (q_Ref_less wi a1 (0 : Int32) a2)
            else
              if a0 = (3 : Int32) then
                (q_Ref_less wi a2 (0 : Int32) a1)
              else
                if a0 = (4 : Int32) then
                  (q_Ref_less wi a1 (1 : Int32) a2)
                else
                  (q_Ref_less wi a2 (1 : Int32) a1)
      else
        if a0 = (0 : Int32) then
          (if (q_Ref_less wi a2 (1 : Int32) a1) = 0 then (0 : Int32) else (1 : Int32))
        else
          if a0 = (1 : Int32) then
            (if (if (q_Ref_less wi a2 (1 : Int32) a1) = 0 then (0 : Int32) else (1 : Int32)) = 0 then (1 : Int32) else (0 : Int32))
          else
            if a0 = (2 : Int32) then
              (q_Ref_less wi a1 (0 : Int32) a2)
            else
              if a0 = (3 : Int32) then
                (q_Ref_less wi a2 (0 : Int32) a1)
              else
                if a0 = (4 : Int32) then
                  (q_Ref_less wi a1 (1 : Int32) a2)
                else
                  (q_Ref_less wi a2 (1 : Int32) a1)
    else
      (if a0 = (1 : Int32) then (1 : Int32) else (0 : Int32))
  else
    (if a0 = (1 : Int32) then (1 : Int32) else (0 : Int32))
theorem zb_Ref_compared (wi : Int32) (fr : Int32) (bi : Int32) (a0 : Int32) (a1 : Int64) (a2 : Int64) : q_Ref_compared wi fr bi a0 a1 a2 = 0 ∨ q_Ref_compared wi fr bi a0 a1 a2 = 1 := by
  unfold q_Ref_compared
  repeat' split
  all_goals first | exact Or.inl rfl | exact Or.inr rfl | exact zb_Ref_less wi a1 (0 : Int32) a2 | exact zb_Ref_less wi a2 (0 : Int32) a1 | exact zb_Ref_less wi a1 (1 : Int32) a2 | exact zb_Ref_less wi a2 (1 : Int32) a1 | exact zb_Ref_less _ _ _ _
theorem kB_Ref_compared : RB y_Ref_compared b_Ref_compared 7 (some .boolean) 3 := ⟨wt_706, wt_705, wt_33, wt_36, by decide +kernel⟩
set_option maxHeartbeats 4000000 in
set_option maxRecDepth 100000 in
theorem c_Ref_compared (l : Launch) (A : Nat → Prop) (ad : Nat → Nat) (D : va_G) (cB cJ : ClassId) (o r : Nat) (hne : o ≠ r) (hA : ∀ q, rA o r q → A q) (cd : Int32) (la : Int64) (lo : Int32) (hi : Int32) (re : Int32) (wi : Int32) (fr : Int32) (bi : Int32) (mi : Int32) (am : Int64) (we : Int32) (f : Nat → Int32) (a0 : Int32) (a1 : Int64) (a2 : Int64) : Met l y_Ref_compared (Cond.code y_Ref_compared b_Ref_compared 7 (some .boolean) :: BT) ({ frames := 3, cells := 0, slots := 0, locals := 66 }) (PR A ad D cB cJ o r (rf_ cd la r lo hi re wi fr bi mi am we) f [.int a0, .long a1, .long a2]) (QRi D cB o r (q_Ref_compared wi fr bi a0 a1 a2) (rf_ cd la r lo hi re wi fr bi mi am we) f) 0 0 (rA o r) := by
  refine pr_ (by decide) (Nat.le_of_ble_eq_true rfl) ?_
  intro p e s m below meth c hq hP hS hr hk ls hl
  have hx := hq.1
  have hb := hq.2.1
  have hts := hq.2.2.2.2.1
  have hl : lv_has ls 7 [(0, .ref o), (1, .int a0), (2, .long a1), (4, .long a2)] := hl
  refine lv_aload_n hx hb d_Ref_compared_0 rfl (lv_at hl 0 rfl) ?_
  refine lv_lload_n hx hb d_Ref_compared_1 rfl (lv_at hl 2 rfl) ?_
  refine rv_i (As := [.long a1]) (rest := []) hq hA hP hS (c_Ref_isNone l A ad D cB cJ o r hne hA cd la lo hi re wi fr bi mi am we f a1) kB_Ref_isNone wt_566 ⟨rfl, rfl, Nat.le_of_ble_eq_true rfl, Nat.le_of_ble_eq_true rfl⟩ rfl hl.1 rfl (Nat.le_of_ble_eq_true rfl) d_Ref_compared_2 ⟨Nat.zero_le _, Nat.zero_le _⟩ (fun H locs hP hS => ?_)
  refine lv_if_ne (tgt := 17) hx hb d_Ref_compared_5 (by decide) (fun c_1 => ?_) (fun c_1 => ?_)
  · refine lv_iload_n hx hb d_Ref_compared_17 rfl (lv_at hl 1 rfl) ?_
    refine lv_iconst (v := (1 : Int32)) hx hb d_Ref_compared_18 (by decide) ?_
    refine jn_ (J := 27) (ls := ls) (v := .int (if a0 = (1 : Int32) then (1 : Int32) else (0 : Int32))) (rest := []) (fun hj => ?_) ?_
    · refine lv_icmp_ne (tgt := 26) hx hb d_Ref_compared_19 (by decide) (fun c_2 => ?_) (fun c_2 => ?_)
      · refine lv_iconst (v := (0 : Int32)) hx hb d_Ref_compared_26 (by decide) ?_
        exact (by rw [if_neg c_2] at hj; exact hj)
      · refine lv_iconst (v := (1 : Int32)) hx hb d_Ref_compared_22 (by decide) ?_
        refine lv_goto (tgt := 27) hx hb d_Ref_compared_23 (by decide) ?_
        exact (by rw [if_pos c_2] at hj; exact hj)
    exact rr_z hq hr hk (nb_ (by (repeat' split) <;> first | exact Or.inl rfl | exact Or.inr rfl)) hP hS (by unfold q_Ref_compared; exact (((if_neg c_1).trans rfl)).symm) rfl rfl d_Ref_compared_27
  · refine lv_aload_n hx hb d_Ref_compared_8 rfl (lv_at hl 0 rfl) ?_
    refine lv_lload hx hb d_Ref_compared_9 (lv_at hl 3 rfl) ?_
    refine rv_i (As := [.long a2]) (rest := []) hq hA hP hS (c_Ref_isNone l A ad D cB cJ o r hne hA cd la lo hi re wi fr bi mi am we f a2) kB_Ref_isNone wt_566 ⟨rfl, rfl, Nat.le_of_ble_eq_true rfl, Nat.le_of_ble_eq_true rfl⟩ rfl hl.1 rfl (Nat.le_of_ble_eq_true rfl) d_Ref_compared_11 ⟨Nat.zero_le _, Nat.zero_le _⟩ (fun H locs hP hS => ?_)
    refine lv_if_eq (tgt := 28) hx hb d_Ref_compared_14 (by decide) (fun c_3 => ?_) (fun c_3 => ?_)
    · refine lv_aload_n hx hb d_Ref_compared_28 rfl (lv_at hl 0 rfl) ?_
      refine lv_lload_n hx hb d_Ref_compared_29 rfl (lv_at hl 2 rfl) ?_
      refine lv_iconst (v := (1 : Int32)) hx hb d_Ref_compared_30 (by decide) ?_
      refine lv_lload hx hb d_Ref_compared_31 (lv_at hl 3 rfl) ?_
      refine rv_i (As := [.long a1, .int (1 : Int32), .long a2]) (rest := []) hq hA hP hS (c_Ref_less l A ad D cB cJ o r hne hA cd la lo hi re wi fr bi mi am we f a1 (1 : Int32) a2) kB_Ref_less wt_679 ⟨rfl, rfl, Nat.le_of_ble_eq_true rfl, Nat.le_of_ble_eq_true rfl⟩ rfl hl.1 rfl (Nat.le_of_ble_eq_true rfl) d_Ref_compared_33 ⟨Nat.zero_le _, Nat.zero_le _⟩ (fun H locs hP hS => ?_)
      refine lv_if_eq (tgt := 54) hx hb d_Ref_compared_36 (by decide) (fun c_4 => ?_) (fun c_4 => ?_)
      · refine lv_iconst (v := (0 : Int32)) hx hb d_Ref_compared_54 (by decide) ?_
        refine lv_istore (lv' := [(6, .int (0 : Int32)), (0, .ref o), (1, .int a0), (2, .long a1), (4, .long a2)]) hx hb d_Ref_compared_55 hl (by decide) rfl (fun ls hl => ?_)
        refine lv_iload_n hx hb d_Ref_compared_57 rfl (lv_at hl 2 rfl) ?_
        by_cases c_5 : a0 = (0 : Int32)
        · refine lv_tableIn (tgt := 92) hx hb d_Ref_compared_58 (by rw [c_5]; decide) (by rw [c_5]; decide) (by rw [c_5]; rfl) (by decide) ?_
          refine lv_iload hx hb d_Ref_compared_92 (lv_at hl 0 rfl) ?_
          exact rr_z hq hr hk (by decide) hP hS (by unfold q_Ref_compared; exact (((if_pos c_1).trans ((if_pos c_3).trans ((if_pos c_4).trans ((if_pos c_5).trans rfl))))).symm) rfl rfl d_Ref_compared_94
        by_cases c_6 : a0 = (1 : Int32)
        · refine lv_tableIn (tgt := 95) hx hb d_Ref_compared_58 (by rw [c_6]; decide) (by rw [c_6]; decide) (by rw [c_6]; rfl) (by decide) ?_
          refine lv_iload hx hb d_Ref_compared_95 (lv_at hl 0 rfl) ?_
          refine lv_if_ne (tgt := 104) hx hb d_Ref_compared_97 (by decide) (fun c => absurd (by decide) c) (fun _ => ?_)
          refine lv_iconst (v := (1 : Int32)) hx hb d_Ref_compared_100 (by decide) ?_
          refine lv_goto (tgt := 105) hx hb d_Ref_compared_101 (by decide) ?_
          exact rr_z hq hr hk (by decide) hP hS (by unfold q_Ref_compared; exact (((if_pos c_1).trans ((if_pos c_3).trans ((if_pos c_4).trans ((if_neg c_5).trans ((if_pos c_6).trans rfl)))))).symm) rfl rfl d_Ref_compared_105
        by_cases c_7 : a0 = (2 : Int32)
        · refine lv_tableIn (tgt := 106) hx hb d_Ref_compared_58 (by rw [c_7]; decide) (by rw [c_7]; decide) (by rw [c_7]; rfl) (by decide) ?_
          refine lv_aload_n hx hb d_Ref_compared_106 rfl (lv_at hl 1 rfl) ?_
          refine lv_lload_n hx hb d_Ref_compared_107 rfl (lv_at hl 3 rfl) ?_
          refine lv_iconst (v := (0 : Int32)) hx hb d_Ref_compared_108 (by decide) ?_
          refine lv_lload hx hb d_Ref_compared_109 (lv_at hl 4 rfl) ?_
          refine rv_i (As := [.long a1, .int (0 : Int32), .long a2]) (rest := []) hq hA hP hS (c_Ref_less l A ad D cB cJ o r hne hA cd la lo hi re wi fr bi mi am we f a1 (0 : Int32) a2) kB_Ref_less wt_679 ⟨rfl, rfl, Nat.le_of_ble_eq_true rfl, Nat.le_of_ble_eq_true rfl⟩ rfl hl.1 rfl (Nat.le_of_ble_eq_true rfl) d_Ref_compared_111 ⟨Nat.zero_le _, Nat.zero_le _⟩ (fun H locs hP hS => ?_)
          exact rr_z hq hr hk (nb_ (zb_Ref_less wi a1 (0 : Int32) a2)) hP hS (by unfold q_Ref_compared; exact (((if_pos c_1).trans ((if_pos c_3).trans ((if_pos c_4).trans ((if_neg c_5).trans ((if_neg c_6).trans ((if_pos c_7).trans rfl))))))).symm) rfl rfl d_Ref_compared_114
        by_cases c_8 : a0 = (3 : Int32)
        · refine lv_tableIn (tgt := 115) hx hb d_Ref_compared_58 (by rw [c_8]; decide) (by rw [c_8]; decide) (by rw [c_8]; rfl) (by decide) ?_
          refine lv_aload_n hx hb d_Ref_compared_115 rfl (lv_at hl 1 rfl) ?_
          refine lv_lload hx hb d_Ref_compared_116 (lv_at hl 4 rfl) ?_
          refine lv_iconst (v := (0 : Int32)) hx hb d_Ref_compared_118 (by decide) ?_
          refine lv_lload_n hx hb d_Ref_compared_119 rfl (lv_at hl 3 rfl) ?_
          refine rv_i (As := [.long a2, .int (0 : Int32), .long a1]) (rest := []) hq hA hP hS (c_Ref_less l A ad D cB cJ o r hne hA cd la lo hi re wi fr bi mi am we f a2 (0 : Int32) a1) kB_Ref_less wt_679 ⟨rfl, rfl, Nat.le_of_ble_eq_true rfl, Nat.le_of_ble_eq_true rfl⟩ rfl hl.1 rfl (Nat.le_of_ble_eq_true rfl) d_Ref_compared_120 ⟨Nat.zero_le _, Nat.zero_le _⟩ (fun H locs hP hS => ?_)
          exact rr_z hq hr hk (nb_ (zb_Ref_less wi a2 (0 : Int32) a1)) hP hS (by unfold q_Ref_compared; exact (((if_pos c_1).trans ((if_pos c_3).trans ((if_pos c_4).trans ((if_neg c_5).trans ((if_neg c_6).trans ((if_neg c_7).trans ((if_pos c_8).trans rfl)))))))).symm) rfl rfl d_Ref_compared_123
        by_cases c_9 : a0 = (4 : Int32)
        · refine lv_tableIn (tgt := 124) hx hb d_Ref_compared_58 (by rw [c_9]; decide) (by rw [c_9]; decide) (by rw [c_9]; rfl) (by decide) ?_
          refine lv_aload_n hx hb d_Ref_compared_124 rfl (lv_at hl 1 rfl) ?_
          refine lv_lload_n hx hb d_Ref_compared_125 rfl (lv_at hl 3 rfl) ?_
          refine lv_iconst (v := (1 : Int32)) hx hb d_Ref_compared_126 (by decide) ?_
          refine lv_lload hx hb d_Ref_compared_127 (lv_at hl 4 rfl) ?_
          refine rv_i (As := [.long a1, .int (1 : Int32), .long a2]) (rest := []) hq hA hP hS (c_Ref_less l A ad D cB cJ o r hne hA cd la lo hi re wi fr bi mi am we f a1 (1 : Int32) a2) kB_Ref_less wt_679 ⟨rfl, rfl, Nat.le_of_ble_eq_true rfl, Nat.le_of_ble_eq_true rfl⟩ rfl hl.1 rfl (Nat.le_of_ble_eq_true rfl) d_Ref_compared_129 ⟨Nat.zero_le _, Nat.zero_le _⟩ (fun H locs hP hS => ?_)
          exact rr_z hq hr hk (nb_ (zb_Ref_less wi a1 (1 : Int32) a2)) hP hS (by unfold q_Ref_compared; exact (((if_pos c_1).trans ((if_pos c_3).trans ((if_pos c_4).trans ((if_neg c_5).trans ((if_neg c_6).trans ((if_neg c_7).trans ((if_neg c_8).trans ((if_pos c_9).trans rfl))))))))).symm) rfl rfl d_Ref_compared_132
        have hsw : a0.toInt < 0 ∨ 4 < a0.toInt := by
          have := lv_neT c_5 (a := 0) (by decide)
          have := lv_neT c_6 (a := 1) (by decide)
          have := lv_neT c_7 (a := 2) (by decide)
          have := lv_neT c_8 (a := 3) (by decide)
          have := lv_neT c_9 (a := 4) (by decide)
          omega
        refine lv_tableOut (tgt := 133) hx hb d_Ref_compared_58 hsw (by decide) ?_
        refine lv_aload_n hx hb d_Ref_compared_133 rfl (lv_at hl 1 rfl) ?_
        refine lv_lload hx hb d_Ref_compared_134 (lv_at hl 4 rfl) ?_
        refine lv_iconst (v := (1 : Int32)) hx hb d_Ref_compared_136 (by decide) ?_
        refine lv_lload_n hx hb d_Ref_compared_137 rfl (lv_at hl 3 rfl) ?_
        refine rv_i (As := [.long a2, .int (1 : Int32), .long a1]) (rest := []) hq hA hP hS (c_Ref_less l A ad D cB cJ o r hne hA cd la lo hi re wi fr bi mi am we f a2 (1 : Int32) a1) kB_Ref_less wt_679 ⟨rfl, rfl, Nat.le_of_ble_eq_true rfl, Nat.le_of_ble_eq_true rfl⟩ rfl hl.1 rfl (Nat.le_of_ble_eq_true rfl) d_Ref_compared_138 ⟨Nat.zero_le _, Nat.zero_le _⟩ (fun H locs hP hS => ?_)
        exact rr_z hq hr hk (nb_ (zb_Ref_less wi a2 (1 : Int32) a1)) hP hS (by unfold q_Ref_compared; exact (((if_pos c_1).trans ((if_pos c_3).trans ((if_pos c_4).trans ((if_neg c_5).trans ((if_neg c_6).trans ((if_neg c_7).trans ((if_neg c_8).trans ((if_neg c_9).trans rfl))))))))).symm) rfl rfl d_Ref_compared_141
      · refine lv_aload_n hx hb d_Ref_compared_39 rfl (lv_at hl 0 rfl) ?_
        refine lv_lload hx hb d_Ref_compared_40 (lv_at hl 3 rfl) ?_
        refine lv_iconst (v := (1 : Int32)) hx hb d_Ref_compared_42 (by decide) ?_
        refine lv_lload_n hx hb d_Ref_compared_43 rfl (lv_at hl 2 rfl) ?_
        refine rv_i (As := [.long a2, .int (1 : Int32), .long a1]) (rest := []) hq hA hP hS (c_Ref_less l A ad D cB cJ o r hne hA cd la lo hi re wi fr bi mi am we f a2 (1 : Int32) a1) kB_Ref_less wt_679 ⟨rfl, rfl, Nat.le_of_ble_eq_true rfl, Nat.le_of_ble_eq_true rfl⟩ rfl hl.1 rfl (Nat.le_of_ble_eq_true rfl) d_Ref_compared_44 ⟨Nat.zero_le _, Nat.zero_le _⟩ (fun H locs hP hS => ?_)
        refine jn_ (J := 55) (ls := ls) (v := .int (if (q_Ref_less wi a2 (1 : Int32) a1) = 0 then (0 : Int32) else (1 : Int32))) (rest := []) (fun hj => ?_) ?_
        · refine lv_if_eq (tgt := 54) hx hb d_Ref_compared_47 (by decide) (fun c_10 => ?_) (fun c_10 => ?_)
          · refine lv_iconst (v := (0 : Int32)) hx hb d_Ref_compared_54 (by decide) ?_
            exact (by rw [if_pos c_10] at hj; exact hj)
          · refine lv_iconst (v := (1 : Int32)) hx hb d_Ref_compared_50 (by decide) ?_
            refine lv_goto (tgt := 55) hx hb d_Ref_compared_51 (by decide) ?_
            exact (by rw [if_neg c_10] at hj; exact hj)
        refine lv_istore (lv' := [(6, .int (if (q_Ref_less wi a2 (1 : Int32) a1) = 0 then (0 : Int32) else (1 : Int32))), (0, .ref o), (1, .int a0), (2, .long a1), (4, .long a2)]) hx hb d_Ref_compared_55 hl (by decide) rfl (fun ls hl => ?_)
        refine lv_iload_n hx hb d_Ref_compared_57 rfl (lv_at hl 2 rfl) ?_
        by_cases c_11 : a0 = (0 : Int32)
        · refine lv_tableIn (tgt := 92) hx hb d_Ref_compared_58 (by rw [c_11]; decide) (by rw [c_11]; decide) (by rw [c_11]; rfl) (by decide) ?_
          refine lv_iload hx hb d_Ref_compared_92 (lv_at hl 0 rfl) ?_
          exact rr_z hq hr hk (nb_ (by (repeat' split) <;> first | exact Or.inl rfl | exact Or.inr rfl | exact zb_Ref_less _ _ _ _)) hP hS (by unfold q_Ref_compared; exact (((if_pos c_1).trans ((if_pos c_3).trans ((if_neg c_4).trans ((if_pos c_11).trans rfl))))).symm) rfl rfl d_Ref_compared_94
        by_cases c_12 : a0 = (1 : Int32)
        · refine lv_tableIn (tgt := 95) hx hb d_Ref_compared_58 (by rw [c_12]; decide) (by rw [c_12]; decide) (by rw [c_12]; rfl) (by decide) ?_
          refine lv_iload hx hb d_Ref_compared_95 (lv_at hl 0 rfl) ?_
          refine jn_ (J := 105) (ls := ls) (v := .int (if (if (q_Ref_less wi a2 (1 : Int32) a1) = 0 then (0 : Int32) else (1 : Int32)) = 0 then (1 : Int32) else (0 : Int32))) (rest := []) (fun hj => ?_) ?_
          · refine lv_if_ne (tgt := 104) hx hb d_Ref_compared_97 (by decide) (fun c_13 => ?_) (fun c_13 => ?_)
            · refine lv_iconst (v := (0 : Int32)) hx hb d_Ref_compared_104 (by decide) ?_
              exact (by rw [if_neg c_13] at hj; exact hj)
            · refine lv_iconst (v := (1 : Int32)) hx hb d_Ref_compared_100 (by decide) ?_
              refine lv_goto (tgt := 105) hx hb d_Ref_compared_101 (by decide) ?_
              exact (by rw [if_pos c_13] at hj; exact hj)
          exact rr_z hq hr hk (nb_ (by (repeat' split) <;> first | exact Or.inl rfl | exact Or.inr rfl | exact zb_Ref_less _ _ _ _)) hP hS (by unfold q_Ref_compared; exact (((if_pos c_1).trans ((if_pos c_3).trans ((if_neg c_4).trans ((if_neg c_11).trans ((if_pos c_12).trans rfl)))))).symm) rfl rfl d_Ref_compared_105
        by_cases c_14 : a0 = (2 : Int32)
        · refine lv_tableIn (tgt := 106) hx hb d_Ref_compared_58 (by rw [c_14]; decide) (by rw [c_14]; decide) (by rw [c_14]; rfl) (by decide) ?_
          refine lv_aload_n hx hb d_Ref_compared_106 rfl (lv_at hl 1 rfl) ?_
          refine lv_lload_n hx hb d_Ref_compared_107 rfl (lv_at hl 3 rfl) ?_
          refine lv_iconst (v := (0 : Int32)) hx hb d_Ref_compared_108 (by decide) ?_
          refine lv_lload hx hb d_Ref_compared_109 (lv_at hl 4 rfl) ?_
          refine rv_i (As := [.long a1, .int (0 : Int32), .long a2]) (rest := []) hq hA hP hS (c_Ref_less l A ad D cB cJ o r hne hA cd la lo hi re wi fr bi mi am we f a1 (0 : Int32) a2) kB_Ref_less wt_679 ⟨rfl, rfl, Nat.le_of_ble_eq_true rfl, Nat.le_of_ble_eq_true rfl⟩ rfl hl.1 rfl (Nat.le_of_ble_eq_true rfl) d_Ref_compared_111 ⟨Nat.zero_le _, Nat.zero_le _⟩ (fun H locs hP hS => ?_)
          exact rr_z hq hr hk (nb_ (zb_Ref_less wi a1 (0 : Int32) a2)) hP hS (by unfold q_Ref_compared; exact (((if_pos c_1).trans ((if_pos c_3).trans ((if_neg c_4).trans ((if_neg c_11).trans ((if_neg c_12).trans ((if_pos c_14).trans rfl))))))).symm) rfl rfl d_Ref_compared_114
        by_cases c_15 : a0 = (3 : Int32)
        · refine lv_tableIn (tgt := 115) hx hb d_Ref_compared_58 (by rw [c_15]; decide) (by rw [c_15]; decide) (by rw [c_15]; rfl) (by decide) ?_
          refine lv_aload_n hx hb d_Ref_compared_115 rfl (lv_at hl 1 rfl) ?_
          refine lv_lload hx hb d_Ref_compared_116 (lv_at hl 4 rfl) ?_
          refine lv_iconst (v := (0 : Int32)) hx hb d_Ref_compared_118 (by decide) ?_
          refine lv_lload_n hx hb d_Ref_compared_119 rfl (lv_at hl 3 rfl) ?_
          refine rv_i (As := [.long a2, .int (0 : Int32), .long a1]) (rest := []) hq hA hP hS (c_Ref_less l A ad D cB cJ o r hne hA cd la lo hi re wi fr bi mi am we f a2 (0 : Int32) a1) kB_Ref_less wt_679 ⟨rfl, rfl, Nat.le_of_ble_eq_true rfl, Nat.le_of_ble_eq_true rfl⟩ rfl hl.1 rfl (Nat.le_of_ble_eq_true rfl) d_Ref_compared_120 ⟨Nat.zero_le _, Nat.zero_le _⟩ (fun H locs hP hS => ?_)
          exact rr_z hq hr hk (nb_ (zb_Ref_less wi a2 (0 : Int32) a1)) hP hS (by unfold q_Ref_compared; exact (((if_pos c_1).trans ((if_pos c_3).trans ((if_neg c_4).trans ((if_neg c_11).trans ((if_neg c_12).trans ((if_neg c_14).trans ((if_pos c_15).trans rfl)))))))).symm) rfl rfl d_Ref_compared_123
        by_cases c_16 : a0 = (4 : Int32)
        · refine lv_tableIn (tgt := 124) hx hb d_Ref_compared_58 (by rw [c_16]; decide) (by rw [c_16]; decide) (by rw [c_16]; rfl) (by decide) ?_
          refine lv_aload_n hx hb d_Ref_compared_124 rfl (lv_at hl 1 rfl) ?_
          refine lv_lload_n hx hb d_Ref_compared_125 rfl (lv_at hl 3 rfl) ?_
          refine lv_iconst (v := (1 : Int32)) hx hb d_Ref_compared_126 (by decide) ?_
          refine lv_lload hx hb d_Ref_compared_127 (lv_at hl 4 rfl) ?_
          refine rv_i (As := [.long a1, .int (1 : Int32), .long a2]) (rest := []) hq hA hP hS (c_Ref_less l A ad D cB cJ o r hne hA cd la lo hi re wi fr bi mi am we f a1 (1 : Int32) a2) kB_Ref_less wt_679 ⟨rfl, rfl, Nat.le_of_ble_eq_true rfl, Nat.le_of_ble_eq_true rfl⟩ rfl hl.1 rfl (Nat.le_of_ble_eq_true rfl) d_Ref_compared_129 ⟨Nat.zero_le _, Nat.zero_le _⟩ (fun H locs hP hS => ?_)
          exact rr_z hq hr hk (nb_ (zb_Ref_less wi a1 (1 : Int32) a2)) hP hS (by unfold q_Ref_compared; exact (((if_pos c_1).trans ((if_pos c_3).trans ((if_neg c_4).trans ((if_neg c_11).trans ((if_neg c_12).trans ((if_neg c_14).trans ((if_neg c_15).trans ((if_pos c_16).trans rfl))))))))).symm) rfl rfl d_Ref_compared_132
        have hsw : a0.toInt < 0 ∨ 4 < a0.toInt := by
          have := lv_neT c_11 (a := 0) (by decide)
          have := lv_neT c_12 (a := 1) (by decide)
          have := lv_neT c_14 (a := 2) (by decide)
          have := lv_neT c_15 (a := 3) (by decide)
          have := lv_neT c_16 (a := 4) (by decide)
          omega
        refine lv_tableOut (tgt := 133) hx hb d_Ref_compared_58 hsw (by decide) ?_
        refine lv_aload_n hx hb d_Ref_compared_133 rfl (lv_at hl 1 rfl) ?_
        refine lv_lload hx hb d_Ref_compared_134 (lv_at hl 4 rfl) ?_
        refine lv_iconst (v := (1 : Int32)) hx hb d_Ref_compared_136 (by decide) ?_
        refine lv_lload_n hx hb d_Ref_compared_137 rfl (lv_at hl 3 rfl) ?_
        refine rv_i (As := [.long a2, .int (1 : Int32), .long a1]) (rest := []) hq hA hP hS (c_Ref_less l A ad D cB cJ o r hne hA cd la lo hi re wi fr bi mi am we f a2 (1 : Int32) a1) kB_Ref_less wt_679 ⟨rfl, rfl, Nat.le_of_ble_eq_true rfl, Nat.le_of_ble_eq_true rfl⟩ rfl hl.1 rfl (Nat.le_of_ble_eq_true rfl) d_Ref_compared_138 ⟨Nat.zero_le _, Nat.zero_le _⟩ (fun H locs hP hS => ?_)
        exact rr_z hq hr hk (nb_ (zb_Ref_less wi a2 (1 : Int32) a1)) hP hS (by unfold q_Ref_compared; exact (((if_pos c_1).trans ((if_pos c_3).trans ((if_neg c_4).trans ((if_neg c_11).trans ((if_neg c_12).trans ((if_neg c_14).trans ((if_neg c_15).trans ((if_neg c_16).trans rfl))))))))).symm) rfl rfl d_Ref_compared_141
    · refine lv_iload_n hx hb d_Ref_compared_17 rfl (lv_at hl 1 rfl) ?_
      refine lv_iconst (v := (1 : Int32)) hx hb d_Ref_compared_18 (by decide) ?_
      refine jn_ (J := 27) (ls := ls) (v := .int (if a0 = (1 : Int32) then (1 : Int32) else (0 : Int32))) (rest := []) (fun hj => ?_) ?_
      · refine lv_icmp_ne (tgt := 26) hx hb d_Ref_compared_19 (by decide) (fun c_17 => ?_) (fun c_17 => ?_)
        · refine lv_iconst (v := (0 : Int32)) hx hb d_Ref_compared_26 (by decide) ?_
          exact (by rw [if_neg c_17] at hj; exact hj)
        · refine lv_iconst (v := (1 : Int32)) hx hb d_Ref_compared_22 (by decide) ?_
          refine lv_goto (tgt := 27) hx hb d_Ref_compared_23 (by decide) ?_
          exact (by rw [if_pos c_17] at hj; exact hj)
      exact rr_z hq hr hk (nb_ (by (repeat' split) <;> first | exact Or.inl rfl | exact Or.inr rfl)) hP hS (by unfold q_Ref_compared; exact (((if_pos c_1).trans ((if_neg c_3).trans rfl))).symm) rfl rfl d_Ref_compared_27
def q_Ref_lesser (wi : Int32) (a0 : Int32) (a1 : Int64) (a2 : Int64) : Int64 :=
  if (q_Ref_isZero wi a1) = 0 then
    (if (q_Ref_less wi a1 (1 : Int32) a2) = a0 then a2 else a1)
  else
    if (q_Ref_isZero wi a2) = 0 then
      (if (q_Ref_less wi a1 (1 : Int32) a2) = a0 then a2 else a1)
    else
      if a0 = 0 then
        if (q_Ref_isMinus wi a1) = 0 then
          (q_Ref_signed wi (0 : Int64) (if (q_Ref_isMinus wi a2) = 0 then (0 : Int32) else (1 : Int32)))
        else
          (q_Ref_signed wi (0 : Int64) (1 : Int32))
      else
        if (q_Ref_isMinus wi a1) = 0 then
          (q_Ref_signed wi (0 : Int64) (0 : Int32))
        else
          (q_Ref_signed wi (0 : Int64) (if (q_Ref_isMinus wi a2) = 0 then (0 : Int32) else (1 : Int32)))
theorem kB_Ref_lesser : RB y_Ref_lesser b_Ref_lesser 6 (some .long) 3 := ⟨wt_678, wt_677, wt_29, wt_36, by decide +kernel⟩
set_option maxHeartbeats 4000000 in
set_option maxRecDepth 100000 in
theorem c_Ref_lesser (l : Launch) (A : Nat → Prop) (ad : Nat → Nat) (D : va_G) (cB cJ : ClassId) (o r : Nat) (hne : o ≠ r) (hA : ∀ q, rA o r q → A q) (cd : Int32) (la : Int64) (lo : Int32) (hi : Int32) (re : Int32) (wi : Int32) (fr : Int32) (bi : Int32) (mi : Int32) (am : Int64) (we : Int32) (f : Nat → Int32) (a0 : Int32) (a1 : Int64) (a2 : Int64) : Met l y_Ref_lesser (Cond.code y_Ref_lesser b_Ref_lesser 6 (some .long) :: BT) ({ frames := 2, cells := 0, slots := 0, locals := 51 }) (PR A ad D cB cJ o r (rf_ cd la r lo hi re wi fr bi mi am we) f [.int a0, .long a1, .long a2]) (QRl D cB o r (q_Ref_lesser wi a0 a1 a2) (rf_ cd la r lo hi re wi fr bi mi am we) f) 0 0 (rA o r) := by
  refine pr_ (by decide) (Nat.le_of_ble_eq_true rfl) ?_
  intro p e s m below meth c hq hP hS hr hk ls hl
  have hx := hq.1
  have hb := hq.2.1
  have hts := hq.2.2.2.2.1
  have hl : lv_has ls 6 [(0, .ref o), (1, .int a0), (2, .long a1), (4, .long a2)] := hl
  refine lv_aload_n hx hb d_Ref_lesser_0 rfl (lv_at hl 0 rfl) ?_
  refine lv_lload_n hx hb d_Ref_lesser_1 rfl (lv_at hl 2 rfl) ?_
  refine rv_i (As := [.long a1]) (rest := []) hq hA hP hS (c_Ref_isZero l A ad D cB cJ o r hne hA cd la lo hi re wi fr bi mi am we f a1) kB_Ref_isZero wt_635 ⟨rfl, rfl, Nat.le_of_ble_eq_true rfl, Nat.le_of_ble_eq_true rfl⟩ rfl hl.1 rfl (Nat.le_of_ble_eq_true rfl) d_Ref_lesser_2 ⟨Nat.zero_le _, Nat.zero_le _⟩ (fun H locs hP hS => ?_)
  refine lv_if_eq (tgt := 79) hx hb d_Ref_lesser_5 (by decide) (fun c_1 => ?_) (fun c_1 => ?_)
  · refine lv_aload_n hx hb d_Ref_lesser_79 rfl (lv_at hl 0 rfl) ?_
    refine lv_lload_n hx hb d_Ref_lesser_80 rfl (lv_at hl 2 rfl) ?_
    refine lv_iconst (v := (1 : Int32)) hx hb d_Ref_lesser_81 (by decide) ?_
    refine lv_lload hx hb d_Ref_lesser_82 (lv_at hl 3 rfl) ?_
    refine rv_i (As := [.long a1, .int (1 : Int32), .long a2]) (rest := []) hq hA hP hS (c_Ref_less l A ad D cB cJ o r hne hA cd la lo hi re wi fr bi mi am we f a1 (1 : Int32) a2) kB_Ref_less wt_679 ⟨rfl, rfl, Nat.le_of_ble_eq_true rfl, Nat.le_of_ble_eq_true rfl⟩ rfl hl.1 rfl (Nat.le_of_ble_eq_true rfl) d_Ref_lesser_84 ⟨Nat.zero_le _, Nat.zero_le _⟩ (fun H locs hP hS => ?_)
    refine lv_iload_n hx hb d_Ref_lesser_87 rfl (lv_at hl 1 rfl) ?_
    refine jn_ (J := 97) (ls := ls) (v := .long (if (q_Ref_less wi a1 (1 : Int32) a2) = a0 then a2 else a1)) (rest := []) (fun hj => ?_) ?_
    · refine lv_icmp_eq (tgt := 95) hx hb d_Ref_lesser_88 (by decide) (fun c_2 => ?_) (fun c_2 => ?_)
      · refine lv_lload hx hb d_Ref_lesser_95 (lv_at hl 3 rfl) ?_
        exact (by rw [if_pos c_2] at hj; exact hj)
      · refine lv_lload_n hx hb d_Ref_lesser_91 rfl (lv_at hl 2 rfl) ?_
        refine lv_goto (tgt := 97) hx hb d_Ref_lesser_92 (by decide) ?_
        exact (by rw [if_neg c_2] at hj; exact hj)
    exact rr_l hq hr hk  hP hS (by unfold q_Ref_lesser; exact (((if_pos c_1).trans rfl)).symm) rfl rfl d_Ref_lesser_97
  · refine lv_aload_n hx hb d_Ref_lesser_8 rfl (lv_at hl 0 rfl) ?_
    refine lv_lload hx hb d_Ref_lesser_9 (lv_at hl 3 rfl) ?_
    refine rv_i (As := [.long a2]) (rest := []) hq hA hP hS (c_Ref_isZero l A ad D cB cJ o r hne hA cd la lo hi re wi fr bi mi am we f a2) kB_Ref_isZero wt_635 ⟨rfl, rfl, Nat.le_of_ble_eq_true rfl, Nat.le_of_ble_eq_true rfl⟩ rfl hl.1 rfl (Nat.le_of_ble_eq_true rfl) d_Ref_lesser_11 ⟨Nat.zero_le _, Nat.zero_le _⟩ (fun H locs hP hS => ?_)
    refine lv_if_eq (tgt := 79) hx hb d_Ref_lesser_14 (by decide) (fun c_3 => ?_) (fun c_3 => ?_)
    · refine lv_aload_n hx hb d_Ref_lesser_79 rfl (lv_at hl 0 rfl) ?_
      refine lv_lload_n hx hb d_Ref_lesser_80 rfl (lv_at hl 2 rfl) ?_
      refine lv_iconst (v := (1 : Int32)) hx hb d_Ref_lesser_81 (by decide) ?_
      refine lv_lload hx hb d_Ref_lesser_82 (lv_at hl 3 rfl) ?_
      refine rv_i (As := [.long a1, .int (1 : Int32), .long a2]) (rest := []) hq hA hP hS (c_Ref_less l A ad D cB cJ o r hne hA cd la lo hi re wi fr bi mi am we f a1 (1 : Int32) a2) kB_Ref_less wt_679 ⟨rfl, rfl, Nat.le_of_ble_eq_true rfl, Nat.le_of_ble_eq_true rfl⟩ rfl hl.1 rfl (Nat.le_of_ble_eq_true rfl) d_Ref_lesser_84 ⟨Nat.zero_le _, Nat.zero_le _⟩ (fun H locs hP hS => ?_)
      refine lv_iload_n hx hb d_Ref_lesser_87 rfl (lv_at hl 1 rfl) ?_
      refine jn_ (J := 97) (ls := ls) (v := .long (if (q_Ref_less wi a1 (1 : Int32) a2) = a0 then a2 else a1)) (rest := []) (fun hj => ?_) ?_
      · refine lv_icmp_eq (tgt := 95) hx hb d_Ref_lesser_88 (by decide) (fun c_4 => ?_) (fun c_4 => ?_)
        · refine lv_lload hx hb d_Ref_lesser_95 (lv_at hl 3 rfl) ?_
          exact (by rw [if_pos c_4] at hj; exact hj)
        · refine lv_lload_n hx hb d_Ref_lesser_91 rfl (lv_at hl 2 rfl) ?_
          refine lv_goto (tgt := 97) hx hb d_Ref_lesser_92 (by decide) ?_
          exact (by rw [if_neg c_4] at hj; exact hj)
      exact rr_l hq hr hk  hP hS (by unfold q_Ref_lesser; exact (((if_neg c_1).trans ((if_pos c_3).trans rfl))).symm) rfl rfl d_Ref_lesser_97
    · refine lv_iload_n hx hb d_Ref_lesser_17 rfl (lv_at hl 1 rfl) ?_
      refine lv_if_eq (tgt := 51) hx hb d_Ref_lesser_18 (by decide) (fun c_5 => ?_) (fun c_5 => ?_)
      · refine lv_aload_n hx hb d_Ref_lesser_51 rfl (lv_at hl 0 rfl) ?_
        refine lv_lconst (v := (0 : Int64)) hx hb d_Ref_lesser_52 (by decide) ?_
        refine lv_aload_n hx hb d_Ref_lesser_53 rfl (lv_at hl 0 rfl) ?_
        refine lv_lload_n hx hb d_Ref_lesser_54 rfl (lv_at hl 2 rfl) ?_
        refine rv_i (As := [.long a1]) (rest := [.long (0 : Int64), .ref o]) hq hA hP hS (c_Ref_isMinus l A ad D cB cJ o r hne hA cd la lo hi re wi fr bi mi am we f a1) kB_Ref_isMinus wt_591 ⟨rfl, rfl, Nat.le_of_ble_eq_true rfl, Nat.le_of_ble_eq_true rfl⟩ rfl hl.1 rfl (Nat.le_of_ble_eq_true rfl) d_Ref_lesser_55 ⟨Nat.zero_le _, Nat.zero_le _⟩ (fun H locs hP hS => ?_)
        refine lv_if_ne (tgt := 70) hx hb d_Ref_lesser_58 (by decide) (fun c_6 => ?_) (fun c_6 => ?_)
        · refine lv_iconst (v := (1 : Int32)) hx hb d_Ref_lesser_70 (by decide) ?_
          refine lv_goto (tgt := 75) hx hb d_Ref_lesser_71 (by decide) ?_
          refine rv_l (As := [.long (0 : Int64), .int (1 : Int32)]) (rest := []) hq hA hP hS (c_Ref_signed l A ad D cB cJ o r hne hA cd la lo hi re wi fr bi mi am we f (0 : Int64) (1 : Int32)) kB_Ref_signed wt_579 ⟨rfl, rfl, Nat.le_of_ble_eq_true rfl, Nat.le_of_ble_eq_true rfl⟩ rfl hl.1 rfl (Nat.le_of_ble_eq_true rfl) d_Ref_lesser_75 ⟨Nat.zero_le _, Nat.zero_le _⟩ (fun H locs hP hS => ?_)
          exact rr_l hq hr hk  hP hS (by unfold q_Ref_lesser; exact (((if_neg c_1).trans ((if_neg c_3).trans ((if_pos c_5).trans ((if_neg c_6).trans rfl))))).symm) rfl rfl d_Ref_lesser_78
        · refine lv_aload_n hx hb d_Ref_lesser_61 rfl (lv_at hl 0 rfl) ?_
          refine lv_lload hx hb d_Ref_lesser_62 (lv_at hl 3 rfl) ?_
          refine rv_i (As := [.long a2]) (rest := [.long (0 : Int64), .ref o]) hq hA hP hS (c_Ref_isMinus l A ad D cB cJ o r hne hA cd la lo hi re wi fr bi mi am we f a2) kB_Ref_isMinus wt_591 ⟨rfl, rfl, Nat.le_of_ble_eq_true rfl, Nat.le_of_ble_eq_true rfl⟩ rfl hl.1 rfl (Nat.le_of_ble_eq_true rfl) d_Ref_lesser_64 ⟨Nat.zero_le _, Nat.zero_le _⟩ (fun H locs hP hS => ?_)
          refine jn_ (J := 75) (ls := ls) (v := .int (if (q_Ref_isMinus wi a2) = 0 then (0 : Int32) else (1 : Int32))) (rest := [.long (0 : Int64), .ref o]) (fun hj => ?_) ?_
          · refine lv_if_eq (tgt := 74) hx hb d_Ref_lesser_67 (by decide) (fun c_7 => ?_) (fun c_7 => ?_)
            · refine lv_iconst (v := (0 : Int32)) hx hb d_Ref_lesser_74 (by decide) ?_
              exact (by rw [if_pos c_7] at hj; exact hj)
            · refine lv_iconst (v := (1 : Int32)) hx hb d_Ref_lesser_70 (by decide) ?_
              refine lv_goto (tgt := 75) hx hb d_Ref_lesser_71 (by decide) ?_
              exact (by rw [if_neg c_7] at hj; exact hj)
          refine rv_l (As := [.long (0 : Int64), .int (if (q_Ref_isMinus wi a2) = 0 then (0 : Int32) else (1 : Int32))]) (rest := []) hq hA hP hS (c_Ref_signed l A ad D cB cJ o r hne hA cd la lo hi re wi fr bi mi am we f (0 : Int64) (if (q_Ref_isMinus wi a2) = 0 then (0 : Int32) else (1 : Int32))) kB_Ref_signed wt_579 ⟨rfl, rfl, Nat.le_of_ble_eq_true rfl, Nat.le_of_ble_eq_true rfl⟩ rfl hl.1 rfl (Nat.le_of_ble_eq_true rfl) d_Ref_lesser_75 ⟨Nat.zero_le _, Nat.zero_le _⟩ (fun H locs hP hS => ?_)
          exact rr_l hq hr hk  hP hS (by unfold q_Ref_lesser; exact (((if_neg c_1).trans ((if_neg c_3).trans ((if_pos c_5).trans ((if_pos c_6).trans rfl))))).symm) rfl rfl d_Ref_lesser_78
      · refine lv_aload_n hx hb d_Ref_lesser_21 rfl (lv_at hl 0 rfl) ?_
        refine lv_lconst (v := (0 : Int64)) hx hb d_Ref_lesser_22 (by decide) ?_
        refine lv_aload_n hx hb d_Ref_lesser_23 rfl (lv_at hl 0 rfl) ?_
        refine lv_lload_n hx hb d_Ref_lesser_24 rfl (lv_at hl 2 rfl) ?_
        refine rv_i (As := [.long a1]) (rest := [.long (0 : Int64), .ref o]) hq hA hP hS (c_Ref_isMinus l A ad D cB cJ o r hne hA cd la lo hi re wi fr bi mi am we f a1) kB_Ref_isMinus wt_591 ⟨rfl, rfl, Nat.le_of_ble_eq_true rfl, Nat.le_of_ble_eq_true rfl⟩ rfl hl.1 rfl (Nat.le_of_ble_eq_true rfl) d_Ref_lesser_25 ⟨Nat.zero_le _, Nat.zero_le _⟩ (fun H locs hP hS => ?_)
        refine lv_if_eq (tgt := 44) hx hb d_Ref_lesser_28 (by decide) (fun c_8 => ?_) (fun c_8 => ?_)
        · refine lv_iconst (v := (0 : Int32)) hx hb d_Ref_lesser_44 (by decide) ?_
          refine rv_l (As := [.long (0 : Int64), .int (0 : Int32)]) (rest := []) hq hA hP hS (c_Ref_signed l A ad D cB cJ o r hne hA cd la lo hi re wi fr bi mi am we f (0 : Int64) (0 : Int32)) kB_Ref_signed wt_579 ⟨rfl, rfl, Nat.le_of_ble_eq_true rfl, Nat.le_of_ble_eq_true rfl⟩ rfl hl.1 rfl (Nat.le_of_ble_eq_true rfl) d_Ref_lesser_45 ⟨Nat.zero_le _, Nat.zero_le _⟩ (fun H locs hP hS => ?_)
          refine lv_goto (tgt := 78) hx hb d_Ref_lesser_48 (by decide) ?_
          exact rr_l hq hr hk  hP hS (by unfold q_Ref_lesser; exact (((if_neg c_1).trans ((if_neg c_3).trans ((if_neg c_5).trans ((if_pos c_8).trans rfl))))).symm) rfl rfl d_Ref_lesser_78
        · refine lv_aload_n hx hb d_Ref_lesser_31 rfl (lv_at hl 0 rfl) ?_
          refine lv_lload hx hb d_Ref_lesser_32 (lv_at hl 3 rfl) ?_
          refine rv_i (As := [.long a2]) (rest := [.long (0 : Int64), .ref o]) hq hA hP hS (c_Ref_isMinus l A ad D cB cJ o r hne hA cd la lo hi re wi fr bi mi am we f a2) kB_Ref_isMinus wt_591 ⟨rfl, rfl, Nat.le_of_ble_eq_true rfl, Nat.le_of_ble_eq_true rfl⟩ rfl hl.1 rfl (Nat.le_of_ble_eq_true rfl) d_Ref_lesser_34 ⟨Nat.zero_le _, Nat.zero_le _⟩ (fun H locs hP hS => ?_)
          refine jn_ (J := 45) (ls := ls) (v := .int (if (q_Ref_isMinus wi a2) = 0 then (0 : Int32) else (1 : Int32))) (rest := [.long (0 : Int64), .ref o]) (fun hj => ?_) ?_
          · refine lv_if_eq (tgt := 44) hx hb d_Ref_lesser_37 (by decide) (fun c_9 => ?_) (fun c_9 => ?_)
            · refine lv_iconst (v := (0 : Int32)) hx hb d_Ref_lesser_44 (by decide) ?_
              exact (by rw [if_pos c_9] at hj; exact hj)
            · refine lv_iconst (v := (1 : Int32)) hx hb d_Ref_lesser_40 (by decide) ?_
              refine lv_goto (tgt := 45) hx hb d_Ref_lesser_41 (by decide) ?_
              exact (by rw [if_neg c_9] at hj; exact hj)
          refine rv_l (As := [.long (0 : Int64), .int (if (q_Ref_isMinus wi a2) = 0 then (0 : Int32) else (1 : Int32))]) (rest := []) hq hA hP hS (c_Ref_signed l A ad D cB cJ o r hne hA cd la lo hi re wi fr bi mi am we f (0 : Int64) (if (q_Ref_isMinus wi a2) = 0 then (0 : Int32) else (1 : Int32))) kB_Ref_signed wt_579 ⟨rfl, rfl, Nat.le_of_ble_eq_true rfl, Nat.le_of_ble_eq_true rfl⟩ rfl hl.1 rfl (Nat.le_of_ble_eq_true rfl) d_Ref_lesser_45 ⟨Nat.zero_le _, Nat.zero_le _⟩ (fun H locs hP hS => ?_)
          refine lv_goto (tgt := 78) hx hb d_Ref_lesser_48 (by decide) ?_
          exact rr_l hq hr hk  hP hS (by unfold q_Ref_lesser; exact (((if_neg c_1).trans ((if_neg c_3).trans ((if_neg c_5).trans ((if_neg c_8).trans rfl))))).symm) rfl rfl d_Ref_lesser_78
def q_Ref_byDivision (cd : Int32) (a0 : Int32) (a1 : Int32) (a2 : Int64) (a3 : Int64) : Int64 :=
  if a3 = (0 : Int64) then
    (0 : Int64)
  else
    if (if a0 = (6 : Int32) then (1 : Int32) else (if a0 = (8 : Int32) then (1 : Int32) else (0 : Int32))) = 0 then
      (q_Ref_divided a2 a3 (if a0 ≤ (7 : Int32) then (0 : Int32) else (1 : Int32)))
    else
      if (if a0 ≤ (7 : Int32) then (0 : Int32) else (1 : Int32)) = 0 then
        if (if (if a0 ≤ (7 : Int32) then (0 : Int32) else (1 : Int32)) = 0 then (if (if (0 : Int64) ≤ (q_Ref_withSign a2 a1) then (0 : Int32) else (1 : Int32)) = (if (0 : Int64) ≤ (q_Ref_withSign a3 a1) then (0 : Int32) else (1 : Int32)) then (0 : Int32) else (1 : Int32)) else (if (0 : Int64) ≤ (q_Ref_withSign a2 a1) then (0 : Int32) else (1 : Int32))) = 0 then
          if (q_Ref_divided (if (0 : Int64) ≤ (q_Ref_withSign a2 a1) then (q_Ref_withSign a2 a1) else (-(q_Ref_withSign a2 a1))) (if (0 : Int64) ≤ (q_Ref_withSign a3 a1) then (q_Ref_withSign a3 a1) else (-(q_Ref_withSign a3 a1))) (if a0 ≤ (7 : Int32) then (0 : Int32) else (1 : Int32))) = (shl_ (1 : Int64) (a1 - (1 : Int32))) then
            (0 : Int64)
          else
            (if (if (if a0 ≤ (7 : Int32) then (0 : Int32) else (1 : Int32)) = 0 then (if (if (0 : Int64) ≤ (q_Ref_withSign a2 a1) then (0 : Int32) else (1 : Int32)) = (if (0 : Int64) ≤ (q_Ref_withSign a3 a1) then (0 : Int32) else (1 : Int32)) then (0 : Int32) else (1 : Int32)) else (if (0 : Int64) ≤ (q_Ref_withSign a2 a1) then (0 : Int32) else (1 : Int32))) = 0 then (q_Ref_divided (if (0 : Int64) ≤ (q_Ref_withSign a2 a1) then (q_Ref_withSign a2 a1) else (-(q_Ref_withSign a2 a1))) (if (0 : Int64) ≤ (q_Ref_withSign a3 a1) then (q_Ref_withSign a3 a1) else (-(q_Ref_withSign a3 a1))) (if a0 ≤ (7 : Int32) then (0 : Int32) else (1 : Int32))) else (-(q_Ref_divided (if (0 : Int64) ≤ (q_Ref_withSign a2 a1) then (q_Ref_withSign a2 a1) else (-(q_Ref_withSign a2 a1))) (if (0 : Int64) ≤ (q_Ref_withSign a3 a1) then (q_Ref_withSign a3 a1) else (-(q_Ref_withSign a3 a1))) (if a0 ≤ (7 : Int32) then (0 : Int32) else (1 : Int32)))))
        else
          (if (if (if a0 ≤ (7 : Int32) then (0 : Int32) else (1 : Int32)) = 0 then (if (if (0 : Int64) ≤ (q_Ref_withSign a2 a1) then (0 : Int32) else (1 : Int32)) = (if (0 : Int64) ≤ (q_Ref_withSign a3 a1) then (0 : Int32) else (1 : Int32)) then (0 : Int32) else (1 : Int32)) else (if (0 : Int64) ≤ (q_Ref_withSign a2 a1) then (0 : Int32) else (1 : Int32))) = 0 then (q_Ref_divided (if (0 : Int64) ≤ (q_Ref_withSign a2 a1) then (q_Ref_withSign a2 a1) else (-(q_Ref_withSign a2 a1))) (if (0 : Int64) ≤ (q_Ref_withSign a3 a1) then (q_Ref_withSign a3 a1) else (-(q_Ref_withSign a3 a1))) (if a0 ≤ (7 : Int32) then (0 : Int32) else (1 : Int32))) else (-(q_Ref_divided (if (0 : Int64) ≤ (q_Ref_withSign a2 a1) then (q_Ref_withSign a2 a1) else (-(q_Ref_withSign a2 a1))) (if (0 : Int64) ≤ (q_Ref_withSign a3 a1) then (q_Ref_withSign a3 a1) else (-(q_Ref_withSign a3 a1))) (if a0 ≤ (7 : Int32) then (0 : Int32) else (1 : Int32)))))
      else
        (if (if (if a0 ≤ (7 : Int32) then (0 : Int32) else (1 : Int32)) = 0 then (if (if (0 : Int64) ≤ (q_Ref_withSign a2 a1) then (0 : Int32) else (1 : Int32)) = (if (0 : Int64) ≤ (q_Ref_withSign a3 a1) then (0 : Int32) else (1 : Int32)) then (0 : Int32) else (1 : Int32)) else (if (0 : Int64) ≤ (q_Ref_withSign a2 a1) then (0 : Int32) else (1 : Int32))) = 0 then (q_Ref_divided (if (0 : Int64) ≤ (q_Ref_withSign a2 a1) then (q_Ref_withSign a2 a1) else (-(q_Ref_withSign a2 a1))) (if (0 : Int64) ≤ (q_Ref_withSign a3 a1) then (q_Ref_withSign a3 a1) else (-(q_Ref_withSign a3 a1))) (if a0 ≤ (7 : Int32) then (0 : Int32) else (1 : Int32))) else (-(q_Ref_divided (if (0 : Int64) ≤ (q_Ref_withSign a2 a1) then (q_Ref_withSign a2 a1) else (-(q_Ref_withSign a2 a1))) (if (0 : Int64) ≤ (q_Ref_withSign a3 a1) then (q_Ref_withSign a3 a1) else (-(q_Ref_withSign a3 a1))) (if a0 ≤ (7 : Int32) then (0 : Int32) else (1 : Int32)))))
def q_Ref_byDivision_cd (cd : Int32) (a0 : Int32) (a1 : Int32) (a2 : Int64) (a3 : Int64) : Int32 :=
  if a3 = (0 : Int64) then
    (2 : Int32)
  else
    if (if a0 = (6 : Int32) then (1 : Int32) else (if a0 = (8 : Int32) then (1 : Int32) else (0 : Int32))) = 0 then
      cd
    else
      if (if a0 ≤ (7 : Int32) then (0 : Int32) else (1 : Int32)) = 0 then
        if (if (if a0 ≤ (7 : Int32) then (0 : Int32) else (1 : Int32)) = 0 then (if (if (0 : Int64) ≤ (q_Ref_withSign a2 a1) then (0 : Int32) else (1 : Int32)) = (if (0 : Int64) ≤ (q_Ref_withSign a3 a1) then (0 : Int32) else (1 : Int32)) then (0 : Int32) else (1 : Int32)) else (if (0 : Int64) ≤ (q_Ref_withSign a2 a1) then (0 : Int32) else (1 : Int32))) = 0 then
          if (q_Ref_divided (if (0 : Int64) ≤ (q_Ref_withSign a2 a1) then (q_Ref_withSign a2 a1) else (-(q_Ref_withSign a2 a1))) (if (0 : Int64) ≤ (q_Ref_withSign a3 a1) then (q_Ref_withSign a3 a1) else (-(q_Ref_withSign a3 a1))) (if a0 ≤ (7 : Int32) then (0 : Int32) else (1 : Int32))) = (shl_ (1 : Int64) (a1 - (1 : Int32))) then
            (3 : Int32)
          else
            cd
        else
          cd
      else
        cd
theorem kB_Ref_byDivision : RB y_Ref_byDivision b_Ref_byDivision 16 (some .long) 4 := ⟨wt_693, wt_692, wt_32, wt_36, by decide +kernel⟩
set_option maxHeartbeats 4000000 in
set_option maxRecDepth 100000 in
theorem c_Ref_byDivision (l : Launch) (A : Nat → Prop) (ad : Nat → Nat) (D : va_G) (cB cJ : ClassId) (o r : Nat) (hne : o ≠ r) (hA : ∀ q, rA o r q → A q) (cd : Int32) (la : Int64) (lo : Int32) (hi : Int32) (re : Int32) (wi : Int32) (fr : Int32) (bi : Int32) (mi : Int32) (am : Int64) (we : Int32) (f : Nat → Int32) (a0 : Int32) (a1 : Int32) (a2 : Int64) (a3 : Int64) : Met l y_Ref_byDivision (Cond.code y_Ref_byDivision b_Ref_byDivision 16 (some .long) :: BT) ({ frames := 2, cells := 0, slots := 0, locals := 53 }) (PR A ad D cB cJ o r (rf_ cd la r lo hi re wi fr bi mi am we) f [.int a0, .int a1, .long a2, .long a3]) (QRl D cB o r (q_Ref_byDivision cd a0 a1 a2 a3) (rf_ (q_Ref_byDivision_cd cd a0 a1 a2 a3) la r lo hi re wi fr bi mi am we) f) 0 0 (rA o r) := by
  refine pr_ (by decide) (Nat.le_of_ble_eq_true rfl) ?_
  intro p e s m below meth c hq hP hS hr hk ls hl
  have hx := hq.1
  have hb := hq.2.1
  have hts := hq.2.2.2.2.1
  have hl : lv_has ls 16 [(0, .ref o), (1, .int a0), (2, .int a1), (3, .long a2), (5, .long a3)] := hl
  refine lv_iload_n hx hb d_Ref_byDivision_0 rfl (lv_at hl 1 rfl) ?_
  refine lv_bipush (v := (6 : Int32)) hx hb d_Ref_byDivision_1 (by decide) ?_
  refine jn_ (J := 17) (ls := ls) (v := .int (if a0 = (6 : Int32) then (1 : Int32) else (if a0 = (8 : Int32) then (1 : Int32) else (0 : Int32)))) (rest := []) (fun hj => ?_) ?_
  · refine lv_icmp_eq (tgt := 12) hx hb d_Ref_byDivision_3 (by decide) (fun c_1 => ?_) (fun c_1 => ?_)
    · refine lv_iconst (v := (1 : Int32)) hx hb d_Ref_byDivision_12 (by decide) ?_
      refine lv_goto (tgt := 17) hx hb d_Ref_byDivision_13 (by decide) ?_
      exact (by rw [if_pos c_1] at hj; exact hj)
    · refine lv_iload_n hx hb d_Ref_byDivision_6 rfl (lv_at hl 1 rfl) ?_
      refine lv_bipush (v := (8 : Int32)) hx hb d_Ref_byDivision_7 (by decide) ?_
      refine jn_ (J := 17) (ls := ls) (v := .int (if a0 = (8 : Int32) then (1 : Int32) else (0 : Int32))) (rest := []) (fun hj => ?_) ?_
      · refine lv_icmp_ne (tgt := 16) hx hb d_Ref_byDivision_9 (by decide) (fun c_2 => ?_) (fun c_2 => ?_)
        · refine lv_iconst (v := (0 : Int32)) hx hb d_Ref_byDivision_16 (by decide) ?_
          exact (by rw [if_neg c_2] at hj; exact hj)
        · refine lv_iconst (v := (1 : Int32)) hx hb d_Ref_byDivision_12 (by decide) ?_
          refine lv_goto (tgt := 17) hx hb d_Ref_byDivision_13 (by decide) ?_
          exact (by rw [if_pos c_2] at hj; exact hj)
      exact (by rw [if_neg c_1] at hj; exact hj)
  refine lv_istore (lv' := [(7, .int (if a0 = (6 : Int32) then (1 : Int32) else (if a0 = (8 : Int32) then (1 : Int32) else (0 : Int32)))), (0, .ref o), (1, .int a0), (2, .int a1), (3, .long a2), (5, .long a3)]) hx hb d_Ref_byDivision_17 hl (by decide) rfl (fun ls hl => ?_)
  refine lv_iload_n hx hb d_Ref_byDivision_19 rfl (lv_at hl 2 rfl) ?_
  refine lv_bipush (v := (7 : Int32)) hx hb d_Ref_byDivision_20 (by decide) ?_
  refine jn_ (J := 30) (ls := ls) (v := .int (if a0 ≤ (7 : Int32) then (0 : Int32) else (1 : Int32))) (rest := []) (fun hj => ?_) ?_
  · refine lv_icmp_le (tgt := 29) hx hb d_Ref_byDivision_22 (by decide) (fun c_3 => ?_) (fun c_3 => ?_)
    · refine lv_iconst (v := (0 : Int32)) hx hb d_Ref_byDivision_29 (by decide) ?_
      exact (by rw [if_pos c_3] at hj; exact hj)
    · refine lv_iconst (v := (1 : Int32)) hx hb d_Ref_byDivision_25 (by decide) ?_
      refine lv_goto (tgt := 30) hx hb d_Ref_byDivision_26 (by decide) ?_
      exact (by rw [if_neg c_3] at hj; exact hj)
  refine lv_istore (lv' := [(8, .int (if a0 ≤ (7 : Int32) then (0 : Int32) else (1 : Int32))), (7, .int (if a0 = (6 : Int32) then (1 : Int32) else (if a0 = (8 : Int32) then (1 : Int32) else (0 : Int32)))), (0, .ref o), (1, .int a0), (2, .int a1), (3, .long a2), (5, .long a3)]) hx hb d_Ref_byDivision_30 hl (by decide) rfl (fun ls hl => ?_)
  refine lv_lload hx hb d_Ref_byDivision_32 (lv_at hl 6 rfl) ?_
  refine lv_lconst (v := (0 : Int64)) hx hb d_Ref_byDivision_34 (by decide) ?_
  refine W.lcmp hx hb d_Ref_byDivision_35 ?_
  refine lv_if_ne (tgt := 46) hx hb d_Ref_byDivision_36 (by decide) (fun c_4 => ?_) (fun c_4 => ?_)
  · rw [lg_cmp_eq] at c_4
    refine lv_iload hx hb d_Ref_byDivision_46 (lv_at hl 1 rfl) ?_
    refine lv_if_ne (tgt := 60) hx hb d_Ref_byDivision_48 (by decide) (fun c_5 => ?_) (fun c_5 => ?_)
    · refine lv_lload_n hx hb d_Ref_byDivision_60 rfl (lv_at hl 5 rfl) ?_
      refine lv_iload_n hx hb d_Ref_byDivision_61 rfl (lv_at hl 4 rfl) ?_
      refine hl_ (As := [.long a2, .int a1]) (rest := []) hq hA hS (c_Ref_withSign l A ad a2 a1) kB_Ref_withSign wt_600 ⟨rfl, rfl, Nat.le_of_ble_eq_true rfl, Nat.le_of_ble_eq_true rfl⟩ rfl hl.1 rfl (Nat.le_of_ble_eq_true rfl) d_Ref_byDivision_62 ⟨Nat.zero_le _, Nat.zero_le _⟩ ?_
      refine lv_lstore (lv' := [(9, .long (q_Ref_withSign a2 a1)), (8, .int (if a0 ≤ (7 : Int32) then (0 : Int32) else (1 : Int32))), (7, .int (if a0 = (6 : Int32) then (1 : Int32) else (if a0 = (8 : Int32) then (1 : Int32) else (0 : Int32)))), (0, .ref o), (1, .int a0), (2, .int a1), (3, .long a2), (5, .long a3)]) hx hb d_Ref_byDivision_65 hl (by decide) rfl (fun ls hl => ?_)
      refine lv_lload hx hb d_Ref_byDivision_67 (lv_at hl 7 rfl) ?_
      refine lv_iload_n hx hb d_Ref_byDivision_69 rfl (lv_at hl 5 rfl) ?_
      refine hl_ (As := [.long a3, .int a1]) (rest := []) hq hA hS (c_Ref_withSign l A ad a3 a1) kB_Ref_withSign wt_600 ⟨rfl, rfl, Nat.le_of_ble_eq_true rfl, Nat.le_of_ble_eq_true rfl⟩ rfl hl.1 rfl (Nat.le_of_ble_eq_true rfl) d_Ref_byDivision_70 ⟨Nat.zero_le _, Nat.zero_le _⟩ ?_
      refine lv_lstore (lv' := [(11, .long (q_Ref_withSign a3 a1)), (9, .long (q_Ref_withSign a2 a1)), (8, .int (if a0 ≤ (7 : Int32) then (0 : Int32) else (1 : Int32))), (7, .int (if a0 = (6 : Int32) then (1 : Int32) else (if a0 = (8 : Int32) then (1 : Int32) else (0 : Int32)))), (0, .ref o), (1, .int a0), (2, .int a1), (3, .long a2), (5, .long a3)]) hx hb d_Ref_byDivision_73 hl (by decide) rfl (fun ls hl => ?_)
      refine lv_lload hx hb d_Ref_byDivision_75 (lv_at hl 1 rfl) ?_
      refine lv_lconst (v := (0 : Int64)) hx hb d_Ref_byDivision_77 (by decide) ?_
      refine W.lcmp hx hb d_Ref_byDivision_78 ?_
      refine jn_ (J := 90) (ls := ls) (v := .long (if (0 : Int64) ≤ (q_Ref_withSign a2 a1) then (q_Ref_withSign a2 a1) else (-(q_Ref_withSign a2 a1)))) (rest := []) (fun hj => ?_) ?_
      · refine lv_if_ge (tgt := 88) hx hb d_Ref_byDivision_79 (by decide) (fun c_6 => ?_) (fun c_6 => ?_)
        · rw [lg_cmp_ge] at c_6
          refine lv_lload hx hb d_Ref_byDivision_88 (lv_at hl 1 rfl) ?_
          exact (by rw [if_pos c_6] at hj; exact hj)
        · rw [lg_cmp_ge] at c_6
          refine lv_lload hx hb d_Ref_byDivision_82 (lv_at hl 1 rfl) ?_
          refine lv_lneg hx hb d_Ref_byDivision_84 ?_
          refine lv_goto (tgt := 90) hx hb d_Ref_byDivision_85 (by decide) ?_
          exact (by rw [if_neg c_6] at hj; exact hj)
      refine lv_lload hx hb d_Ref_byDivision_90 (lv_at hl 0 rfl) ?_
      refine lv_lconst (v := (0 : Int64)) hx hb d_Ref_byDivision_92 (by decide) ?_
      refine W.lcmp hx hb d_Ref_byDivision_93 ?_
      refine jn_ (J := 105) (ls := ls) (v := .long (if (0 : Int64) ≤ (q_Ref_withSign a3 a1) then (q_Ref_withSign a3 a1) else (-(q_Ref_withSign a3 a1)))) (rest := [.long (if (0 : Int64) ≤ (q_Ref_withSign a2 a1) then (q_Ref_withSign a2 a1) else (-(q_Ref_withSign a2 a1)))]) (fun hj => ?_) ?_
      · refine lv_if_ge (tgt := 103) hx hb d_Ref_byDivision_94 (by decide) (fun c_7 => ?_) (fun c_7 => ?_)
        · rw [lg_cmp_ge] at c_7
          refine lv_lload hx hb d_Ref_byDivision_103 (lv_at hl 0 rfl) ?_
          exact (by rw [if_pos c_7] at hj; exact hj)
        · rw [lg_cmp_ge] at c_7
          refine lv_lload hx hb d_Ref_byDivision_97 (lv_at hl 0 rfl) ?_
          refine lv_lneg hx hb d_Ref_byDivision_99 ?_
          refine lv_goto (tgt := 105) hx hb d_Ref_byDivision_100 (by decide) ?_
          exact (by rw [if_neg c_7] at hj; exact hj)
      refine lv_iload hx hb d_Ref_byDivision_105 (lv_at hl 2 rfl) ?_
      refine hl_ (As := [.long (if (0 : Int64) ≤ (q_Ref_withSign a2 a1) then (q_Ref_withSign a2 a1) else (-(q_Ref_withSign a2 a1))), .long (if (0 : Int64) ≤ (q_Ref_withSign a3 a1) then (q_Ref_withSign a3 a1) else (-(q_Ref_withSign a3 a1))), .int (if a0 ≤ (7 : Int32) then (0 : Int32) else (1 : Int32))]) (rest := []) hq hA hS (c_Ref_divided l A ad (if (0 : Int64) ≤ (q_Ref_withSign a2 a1) then (q_Ref_withSign a2 a1) else (-(q_Ref_withSign a2 a1))) (if (0 : Int64) ≤ (q_Ref_withSign a3 a1) then (q_Ref_withSign a3 a1) else (-(q_Ref_withSign a3 a1))) (if a0 ≤ (7 : Int32) then (0 : Int32) else (1 : Int32))) kB_Ref_divided wt_694 ⟨rfl, rfl, Nat.le_of_ble_eq_true rfl, Nat.le_of_ble_eq_true rfl⟩ rfl hl.1 rfl (Nat.le_of_ble_eq_true rfl) d_Ref_byDivision_107 ⟨Nat.zero_le _, Nat.zero_le _⟩ ?_
      refine lv_lstore (lv' := [(13, .long (q_Ref_divided (if (0 : Int64) ≤ (q_Ref_withSign a2 a1) then (q_Ref_withSign a2 a1) else (-(q_Ref_withSign a2 a1))) (if (0 : Int64) ≤ (q_Ref_withSign a3 a1) then (q_Ref_withSign a3 a1) else (-(q_Ref_withSign a3 a1))) (if a0 ≤ (7 : Int32) then (0 : Int32) else (1 : Int32)))), (11, .long (q_Ref_withSign a3 a1)), (9, .long (q_Ref_withSign a2 a1)), (8, .int (if a0 ≤ (7 : Int32) then (0 : Int32) else (1 : Int32))), (7, .int (if a0 = (6 : Int32) then (1 : Int32) else (if a0 = (8 : Int32) then (1 : Int32) else (0 : Int32)))), (0, .ref o), (1, .int a0), (2, .int a1), (3, .long a2), (5, .long a3)]) hx hb d_Ref_byDivision_110 hl (by decide) rfl (fun ls hl => ?_)
      refine lv_iload hx hb d_Ref_byDivision_112 (lv_at hl 3 rfl) ?_
      refine jn_ (J := 164) (ls := ls) (v := .int (if (if a0 ≤ (7 : Int32) then (0 : Int32) else (1 : Int32)) = 0 then (if (if (0 : Int64) ≤ (q_Ref_withSign a2 a1) then (0 : Int32) else (1 : Int32)) = (if (0 : Int64) ≤ (q_Ref_withSign a3 a1) then (0 : Int32) else (1 : Int32)) then (0 : Int32) else (1 : Int32)) else (if (0 : Int64) ≤ (q_Ref_withSign a2 a1) then (0 : Int32) else (1 : Int32)))) (rest := []) (fun hj => ?_) ?_
      · refine lv_if_eq (tgt := 132) hx hb d_Ref_byDivision_114 (by decide) (fun c_8 => ?_) (fun c_8 => ?_)
        · refine lv_lload hx hb d_Ref_byDivision_132 (lv_at hl 2 rfl) ?_
          refine lv_lconst (v := (0 : Int64)) hx hb d_Ref_byDivision_134 (by decide) ?_
          refine W.lcmp hx hb d_Ref_byDivision_135 ?_
          refine jn_ (J := 144) (ls := ls) (v := .int (if (0 : Int64) ≤ (q_Ref_withSign a2 a1) then (0 : Int32) else (1 : Int32))) (rest := []) (fun hj => ?_) ?_
          · refine lv_if_ge (tgt := 143) hx hb d_Ref_byDivision_136 (by decide) (fun c_9 => ?_) (fun c_9 => ?_)
            · rw [lg_cmp_ge] at c_9
              refine lv_iconst (v := (0 : Int32)) hx hb d_Ref_byDivision_143 (by decide) ?_
              exact (by rw [if_pos c_9] at hj; exact hj)
            · rw [lg_cmp_ge] at c_9
              refine lv_iconst (v := (1 : Int32)) hx hb d_Ref_byDivision_139 (by decide) ?_
              refine lv_goto (tgt := 144) hx hb d_Ref_byDivision_140 (by decide) ?_
              exact (by rw [if_neg c_9] at hj; exact hj)
          refine lv_lload hx hb d_Ref_byDivision_144 (lv_at hl 1 rfl) ?_
          refine lv_lconst (v := (0 : Int64)) hx hb d_Ref_byDivision_146 (by decide) ?_
          refine W.lcmp hx hb d_Ref_byDivision_147 ?_
          refine jn_ (J := 156) (ls := ls) (v := .int (if (0 : Int64) ≤ (q_Ref_withSign a3 a1) then (0 : Int32) else (1 : Int32))) (rest := [.int (if (0 : Int64) ≤ (q_Ref_withSign a2 a1) then (0 : Int32) else (1 : Int32))]) (fun hj => ?_) ?_
          · refine lv_if_ge (tgt := 155) hx hb d_Ref_byDivision_148 (by decide) (fun c_10 => ?_) (fun c_10 => ?_)
            · rw [lg_cmp_ge] at c_10
              refine lv_iconst (v := (0 : Int32)) hx hb d_Ref_byDivision_155 (by decide) ?_
              exact (by rw [if_pos c_10] at hj; exact hj)
            · rw [lg_cmp_ge] at c_10
              refine lv_iconst (v := (1 : Int32)) hx hb d_Ref_byDivision_151 (by decide) ?_
              refine lv_goto (tgt := 156) hx hb d_Ref_byDivision_152 (by decide) ?_
              exact (by rw [if_neg c_10] at hj; exact hj)
          refine jn_ (J := 164) (ls := ls) (v := .int (if (if (0 : Int64) ≤ (q_Ref_withSign a2 a1) then (0 : Int32) else (1 : Int32)) = (if (0 : Int64) ≤ (q_Ref_withSign a3 a1) then (0 : Int32) else (1 : Int32)) then (0 : Int32) else (1 : Int32))) (rest := []) (fun hj => ?_) ?_
          · refine lv_icmp_eq (tgt := 163) hx hb d_Ref_byDivision_156 (by decide) (fun c_11 => ?_) (fun c_11 => ?_)
            · refine lv_iconst (v := (0 : Int32)) hx hb d_Ref_byDivision_163 (by decide) ?_
              exact (by rw [if_pos c_11] at hj; exact hj)
            · refine lv_iconst (v := (1 : Int32)) hx hb d_Ref_byDivision_159 (by decide) ?_
              refine lv_goto (tgt := 164) hx hb d_Ref_byDivision_160 (by decide) ?_
              exact (by rw [if_neg c_11] at hj; exact hj)
          exact (by rw [if_pos c_8] at hj; exact hj)
        · refine lv_lload hx hb d_Ref_byDivision_117 (lv_at hl 2 rfl) ?_
          refine lv_lconst (v := (0 : Int64)) hx hb d_Ref_byDivision_119 (by decide) ?_
          refine W.lcmp hx hb d_Ref_byDivision_120 ?_
          refine jn_ (J := 164) (ls := ls) (v := .int (if (0 : Int64) ≤ (q_Ref_withSign a2 a1) then (0 : Int32) else (1 : Int32))) (rest := []) (fun hj => ?_) ?_
          · refine lv_if_ge (tgt := 128) hx hb d_Ref_byDivision_121 (by decide) (fun c_12 => ?_) (fun c_12 => ?_)
            · rw [lg_cmp_ge] at c_12
              refine lv_iconst (v := (0 : Int32)) hx hb d_Ref_byDivision_128 (by decide) ?_
              refine lv_goto (tgt := 164) hx hb d_Ref_byDivision_129 (by decide) ?_
              exact (by rw [if_pos c_12] at hj; exact hj)
            · rw [lg_cmp_ge] at c_12
              refine lv_iconst (v := (1 : Int32)) hx hb d_Ref_byDivision_124 (by decide) ?_
              refine lv_goto (tgt := 164) hx hb d_Ref_byDivision_125 (by decide) ?_
              exact (by rw [if_neg c_12] at hj; exact hj)
          exact (by rw [if_neg c_8] at hj; exact hj)
      refine lv_istore (lv' := [(15, .int (if (if a0 ≤ (7 : Int32) then (0 : Int32) else (1 : Int32)) = 0 then (if (if (0 : Int64) ≤ (q_Ref_withSign a2 a1) then (0 : Int32) else (1 : Int32)) = (if (0 : Int64) ≤ (q_Ref_withSign a3 a1) then (0 : Int32) else (1 : Int32)) then (0 : Int32) else (1 : Int32)) else (if (0 : Int64) ≤ (q_Ref_withSign a2 a1) then (0 : Int32) else (1 : Int32)))), (13, .long (q_Ref_divided (if (0 : Int64) ≤ (q_Ref_withSign a2 a1) then (q_Ref_withSign a2 a1) else (-(q_Ref_withSign a2 a1))) (if (0 : Int64) ≤ (q_Ref_withSign a3 a1) then (q_Ref_withSign a3 a1) else (-(q_Ref_withSign a3 a1))) (if a0 ≤ (7 : Int32) then (0 : Int32) else (1 : Int32)))), (11, .long (q_Ref_withSign a3 a1)), (9, .long (q_Ref_withSign a2 a1)), (8, .int (if a0 ≤ (7 : Int32) then (0 : Int32) else (1 : Int32))), (7, .int (if a0 = (6 : Int32) then (1 : Int32) else (if a0 = (8 : Int32) then (1 : Int32) else (0 : Int32)))), (0, .ref o), (1, .int a0), (2, .int a1), (3, .long a2), (5, .long a3)]) hx hb d_Ref_byDivision_164 hl (by decide) rfl (fun ls hl => ?_)
      refine lv_iload hx hb d_Ref_byDivision_166 (lv_at hl 4 rfl) ?_
      refine lv_if_ne (tgt := 194) hx hb d_Ref_byDivision_168 (by decide) (fun c_13 => ?_) (fun c_13 => ?_)
      · refine lv_iload hx hb d_Ref_byDivision_194 (lv_at hl 0 rfl) ?_
        refine jn_ (J := 207) (ls := ls) (v := .long (if (if (if a0 ≤ (7 : Int32) then (0 : Int32) else (1 : Int32)) = 0 then (if (if (0 : Int64) ≤ (q_Ref_withSign a2 a1) then (0 : Int32) else (1 : Int32)) = (if (0 : Int64) ≤ (q_Ref_withSign a3 a1) then (0 : Int32) else (1 : Int32)) then (0 : Int32) else (1 : Int32)) else (if (0 : Int64) ≤ (q_Ref_withSign a2 a1) then (0 : Int32) else (1 : Int32))) = 0 then (q_Ref_divided (if (0 : Int64) ≤ (q_Ref_withSign a2 a1) then (q_Ref_withSign a2 a1) else (-(q_Ref_withSign a2 a1))) (if (0 : Int64) ≤ (q_Ref_withSign a3 a1) then (q_Ref_withSign a3 a1) else (-(q_Ref_withSign a3 a1))) (if a0 ≤ (7 : Int32) then (0 : Int32) else (1 : Int32))) else (-(q_Ref_divided (if (0 : Int64) ≤ (q_Ref_withSign a2 a1) then (q_Ref_withSign a2 a1) else (-(q_Ref_withSign a2 a1))) (if (0 : Int64) ≤ (q_Ref_withSign a3 a1) then (q_Ref_withSign a3 a1) else (-(q_Ref_withSign a3 a1))) (if a0 ≤ (7 : Int32) then (0 : Int32) else (1 : Int32)))))) (rest := []) (fun hj => ?_) ?_
        · refine lv_if_eq (tgt := 205) hx hb d_Ref_byDivision_196 (by decide) (fun c_14 => ?_) (fun c_14 => ?_)
          · refine lv_lload hx hb d_Ref_byDivision_205 (lv_at hl 1 rfl) ?_
            exact (by rw [if_pos c_14] at hj; exact hj)
          · refine lv_lload hx hb d_Ref_byDivision_199 (lv_at hl 1 rfl) ?_
            refine lv_lneg hx hb d_Ref_byDivision_201 ?_
            refine lv_goto (tgt := 207) hx hb d_Ref_byDivision_202 (by decide) ?_
            exact (by rw [if_neg c_14] at hj; exact hj)
        exact rr_l hq hr hk  hP hS (by unfold q_Ref_byDivision; exact (((if_neg c_4).trans ((if_neg c_5).trans ((if_neg c_13).trans rfl)))).symm) (by rw [show q_Ref_byDivision_cd cd a0 a1 a2 a3 = cd from by unfold q_Ref_byDivision_cd; exact ((if_neg c_4).trans ((if_neg c_5).trans ((if_neg c_13).trans rfl)))]) rfl d_Ref_byDivision_207
      · refine lv_iload hx hb d_Ref_byDivision_171 (lv_at hl 0 rfl) ?_
        refine lv_if_ne (tgt := 194) hx hb d_Ref_byDivision_173 (by decide) (fun c_15 => ?_) (fun c_15 => ?_)
        · refine lv_iload hx hb d_Ref_byDivision_194 (lv_at hl 0 rfl) ?_
          refine jn_ (J := 207) (ls := ls) (v := .long (if (if (if a0 ≤ (7 : Int32) then (0 : Int32) else (1 : Int32)) = 0 then (if (if (0 : Int64) ≤ (q_Ref_withSign a2 a1) then (0 : Int32) else (1 : Int32)) = (if (0 : Int64) ≤ (q_Ref_withSign a3 a1) then (0 : Int32) else (1 : Int32)) then (0 : Int32) else (1 : Int32)) else (if (0 : Int64) ≤ (q_Ref_withSign a2 a1) then (0 : Int32) else (1 : Int32))) = 0 then (q_Ref_divided (if (0 : Int64) ≤ (q_Ref_withSign a2 a1) then (q_Ref_withSign a2 a1) else (-(q_Ref_withSign a2 a1))) (if (0 : Int64) ≤ (q_Ref_withSign a3 a1) then (q_Ref_withSign a3 a1) else (-(q_Ref_withSign a3 a1))) (if a0 ≤ (7 : Int32) then (0 : Int32) else (1 : Int32))) else (-(q_Ref_divided (if (0 : Int64) ≤ (q_Ref_withSign a2 a1) then (q_Ref_withSign a2 a1) else (-(q_Ref_withSign a2 a1))) (if (0 : Int64) ≤ (q_Ref_withSign a3 a1) then (q_Ref_withSign a3 a1) else (-(q_Ref_withSign a3 a1))) (if a0 ≤ (7 : Int32) then (0 : Int32) else (1 : Int32)))))) (rest := []) (fun hj => ?_) ?_
          · refine lv_if_eq (tgt := 205) hx hb d_Ref_byDivision_196 (by decide) (fun c_16 => ?_) (fun c_16 => ?_)
            · refine lv_lload hx hb d_Ref_byDivision_205 (lv_at hl 1 rfl) ?_
              exact (by rw [if_pos c_16] at hj; exact hj)
            · refine lv_lload hx hb d_Ref_byDivision_199 (lv_at hl 1 rfl) ?_
              refine lv_lneg hx hb d_Ref_byDivision_201 ?_
              refine lv_goto (tgt := 207) hx hb d_Ref_byDivision_202 (by decide) ?_
              exact (by rw [if_neg c_16] at hj; exact hj)
          exact rr_l hq hr hk  hP hS (by unfold q_Ref_byDivision; exact (((if_neg c_4).trans ((if_neg c_5).trans ((if_pos c_13).trans ((if_neg c_15).trans rfl))))).symm) (by rw [show q_Ref_byDivision_cd cd a0 a1 a2 a3 = cd from by unfold q_Ref_byDivision_cd; exact ((if_neg c_4).trans ((if_neg c_5).trans ((if_pos c_13).trans ((if_neg c_15).trans rfl))))]) rfl d_Ref_byDivision_207
        · refine lv_lload hx hb d_Ref_byDivision_176 (lv_at hl 1 rfl) ?_
          refine lv_lconst (v := (1 : Int64)) hx hb d_Ref_byDivision_178 (by decide) ?_
          refine lv_iload_n hx hb d_Ref_byDivision_179 rfl (lv_at hl 8 rfl) ?_
          refine lv_iconst (v := (1 : Int32)) hx hb d_Ref_byDivision_180 (by decide) ?_
          refine lv_isub hx hb d_Ref_byDivision_181 ?_
          refine lv_lshl (v := (shl_ (1 : Int64) (a1 - (1 : Int32)))) hx hb d_Ref_byDivision_182 rfl ?_
          refine W.lcmp hx hb d_Ref_byDivision_183 ?_
          refine lv_if_ne (tgt := 194) hx hb d_Ref_byDivision_184 (by decide) (fun c_17 => ?_) (fun c_17 => ?_)
          · rw [lg_cmp_eq] at c_17
            refine lv_iload hx hb d_Ref_byDivision_194 (lv_at hl 0 rfl) ?_
            refine jn_ (J := 207) (ls := ls) (v := .long (if (if (if a0 ≤ (7 : Int32) then (0 : Int32) else (1 : Int32)) = 0 then (if (if (0 : Int64) ≤ (q_Ref_withSign a2 a1) then (0 : Int32) else (1 : Int32)) = (if (0 : Int64) ≤ (q_Ref_withSign a3 a1) then (0 : Int32) else (1 : Int32)) then (0 : Int32) else (1 : Int32)) else (if (0 : Int64) ≤ (q_Ref_withSign a2 a1) then (0 : Int32) else (1 : Int32))) = 0 then (q_Ref_divided (if (0 : Int64) ≤ (q_Ref_withSign a2 a1) then (q_Ref_withSign a2 a1) else (-(q_Ref_withSign a2 a1))) (if (0 : Int64) ≤ (q_Ref_withSign a3 a1) then (q_Ref_withSign a3 a1) else (-(q_Ref_withSign a3 a1))) (if a0 ≤ (7 : Int32) then (0 : Int32) else (1 : Int32))) else (-(q_Ref_divided (if (0 : Int64) ≤ (q_Ref_withSign a2 a1) then (q_Ref_withSign a2 a1) else (-(q_Ref_withSign a2 a1))) (if (0 : Int64) ≤ (q_Ref_withSign a3 a1) then (q_Ref_withSign a3 a1) else (-(q_Ref_withSign a3 a1))) (if a0 ≤ (7 : Int32) then (0 : Int32) else (1 : Int32)))))) (rest := []) (fun hj => ?_) ?_
            · refine lv_if_eq (tgt := 205) hx hb d_Ref_byDivision_196 (by decide) (fun c_18 => ?_) (fun c_18 => ?_)
              · refine lv_lload hx hb d_Ref_byDivision_205 (lv_at hl 1 rfl) ?_
                exact (by rw [if_pos c_18] at hj; exact hj)
              · refine lv_lload hx hb d_Ref_byDivision_199 (lv_at hl 1 rfl) ?_
                refine lv_lneg hx hb d_Ref_byDivision_201 ?_
                refine lv_goto (tgt := 207) hx hb d_Ref_byDivision_202 (by decide) ?_
                exact (by rw [if_neg c_18] at hj; exact hj)
            exact rr_l hq hr hk  hP hS (by unfold q_Ref_byDivision; exact (((if_neg c_4).trans ((if_neg c_5).trans ((if_pos c_13).trans ((if_pos c_15).trans ((if_neg c_17).trans rfl)))))).symm) (by rw [show q_Ref_byDivision_cd cd a0 a1 a2 a3 = cd from by unfold q_Ref_byDivision_cd; exact ((if_neg c_4).trans ((if_neg c_5).trans ((if_pos c_13).trans ((if_pos c_15).trans ((if_neg c_17).trans rfl)))))]) rfl d_Ref_byDivision_207
          · rw [lg_cmp_eq] at c_17
            refine lv_aload_n hx hb d_Ref_byDivision_187 rfl (lv_at hl 6 rfl) ?_
            refine lv_iconst (v := (3 : Int32)) hx hb d_Ref_byDivision_188 (by decide) ?_
            refine rp_ 0 (ty := tR 0) hq hne hP hS (by decide) wt_484 rfl rfl rfl rfl rfl (Nat.le_of_ble_eq_true rfl) d_Ref_byDivision_189 (fun H locs hP hS => ?_)
            have hP : va_P D clR (rw_ o r cB (rf_ (3 : Int32) la r lo hi re wi fr bi mi am we) f) H := hP
            refine lv_lconst (v := (0 : Int64)) hx hb d_Ref_byDivision_192 (by decide) ?_
            exact rr_l hq hr hk  hP hS (by unfold q_Ref_byDivision; exact (((if_neg c_4).trans ((if_neg c_5).trans ((if_pos c_13).trans ((if_pos c_15).trans ((if_pos c_17).trans rfl)))))).symm) (by rw [show q_Ref_byDivision_cd cd a0 a1 a2 a3 = (3 : Int32) from by unfold q_Ref_byDivision_cd; exact ((if_neg c_4).trans ((if_neg c_5).trans ((if_pos c_13).trans ((if_pos c_15).trans ((if_pos c_17).trans rfl)))))]) rfl d_Ref_byDivision_193
    · refine lv_lload_n hx hb d_Ref_byDivision_51 rfl (lv_at hl 5 rfl) ?_
      refine lv_lload hx hb d_Ref_byDivision_52 (lv_at hl 6 rfl) ?_
      refine lv_iload hx hb d_Ref_byDivision_54 (lv_at hl 0 rfl) ?_
      refine hl_ (As := [.long a2, .long a3, .int (if a0 ≤ (7 : Int32) then (0 : Int32) else (1 : Int32))]) (rest := []) hq hA hS (c_Ref_divided l A ad a2 a3 (if a0 ≤ (7 : Int32) then (0 : Int32) else (1 : Int32))) kB_Ref_divided wt_694 ⟨rfl, rfl, Nat.le_of_ble_eq_true rfl, Nat.le_of_ble_eq_true rfl⟩ rfl hl.1 rfl (Nat.le_of_ble_eq_true rfl) d_Ref_byDivision_56 ⟨Nat.zero_le _, Nat.zero_le _⟩ ?_
      exact rr_l hq hr hk  hP hS (by unfold q_Ref_byDivision; exact (((if_neg c_4).trans ((if_pos c_5).trans rfl))).symm) (by rw [show q_Ref_byDivision_cd cd a0 a1 a2 a3 = cd from by unfold q_Ref_byDivision_cd; exact ((if_neg c_4).trans ((if_pos c_5).trans rfl))]) rfl d_Ref_byDivision_59
  · rw [lg_cmp_eq] at c_4
    refine lv_aload_n hx hb d_Ref_byDivision_39 rfl (lv_at hl 2 rfl) ?_
    refine lv_iconst (v := (2 : Int32)) hx hb d_Ref_byDivision_40 (by decide) ?_
    refine rp_ 0 (ty := tR 0) hq hne hP hS (by decide) wt_484 rfl rfl rfl rfl rfl (Nat.le_of_ble_eq_true rfl) d_Ref_byDivision_41 (fun H locs hP hS => ?_)
    have hP : va_P D clR (rw_ o r cB (rf_ (2 : Int32) la r lo hi re wi fr bi mi am we) f) H := hP
    refine lv_lconst (v := (0 : Int64)) hx hb d_Ref_byDivision_44 (by decide) ?_
    exact rr_l hq hr hk  hP hS (by unfold q_Ref_byDivision; exact (((if_pos c_4).trans rfl)).symm) (by rw [show q_Ref_byDivision_cd cd a0 a1 a2 a3 = (2 : Int32) from by unfold q_Ref_byDivision_cd; exact ((if_pos c_4).trans rfl)]) rfl d_Ref_byDivision_45
def q_Ref_cut (cd : Int32) (wi : Int32) (fr : Int32) (bi : Int32) (mi : Int32) (am : Int64) (we : Int32) (a0 : Int64) (a1 : Int32) (a2 : Int32) : Int64 :=
  if (q_Ref_isNone wi fr bi a0) = 0 then
    if (q_Ref_isInfinite wi fr bi a0) = 0 then
      if (if (q_Ref_split_am wi fr bi a0) = (0 : Int64) then (0 : Int32) else (if (q_Ref_split_we wi fr bi a0) ≤ ((11 : Int32) + (if wi = (32 : Int32) then (29 : Int32) else (0 : Int32))) then (0 : Int32) else (1 : Int32))) = 0 then
        if (q_Ref_below (if a2 = 0 then (if (q_Ref_split_mi wi fr bi a0) = 0 then (if a1 = (64 : Int32) then (-1 : Int64) else (4294967295 : Int64)) else (0 : Int64)) else (if (q_Ref_split_mi wi fr bi a0) = 0 then ((shl_ (1 : Int64) (a1 - (1 : Int32))) - (1 : Int64)) else (shl_ (1 : Int64) (a1 - (1 : Int32))))) (if (if (q_Ref_split_am wi fr bi a0) = (0 : Int64) then (0 : Int32) else (if (q_Ref_split_we wi fr bi a0) ≤ ((11 : Int32) + (if wi = (32 : Int32) then (29 : Int32) else (0 : Int32))) then (0 : Int32) else (1 : Int32))) = 0 then (if (q_Ref_split_we wi fr bi a0) < 0 then (if (-(q_Ref_split_we wi fr bi a0)) ≤ (62 : Int32) then (shr_ (q_Ref_split_am wi fr bi a0) (-(q_Ref_split_we wi fr bi a0))) else (0 : Int64)) else (shl_ (q_Ref_split_am wi fr bi a0) (q_Ref_split_we wi fr bi a0))) else (0 : Int64))) = 0 then
          (if (q_Ref_split_mi wi fr bi a0) = 0 then (if (if (q_Ref_split_am wi fr bi a0) = (0 : Int64) then (0 : Int32) else (if (q_Ref_split_we wi fr bi a0) ≤ ((11 : Int32) + (if wi = (32 : Int32) then (29 : Int32) else (0 : Int32))) then (0 : Int32) else (1 : Int32))) = 0 then (if (q_Ref_split_we wi fr bi a0) < 0 then (if (-(q_Ref_split_we wi fr bi a0)) ≤ (62 : Int32) then (shr_ (q_Ref_split_am wi fr bi a0) (-(q_Ref_split_we wi fr bi a0))) else (0 : Int64)) else (shl_ (q_Ref_split_am wi fr bi a0) (q_Ref_split_we wi fr bi a0))) else (0 : Int64)) else (-(if (if (q_Ref_split_am wi fr bi a0) = (0 : Int64) then (0 : Int32) else (if (q_Ref_split_we wi fr bi a0) ≤ ((11 : Int32) + (if wi = (32 : Int32) then (29 : Int32) else (0 : Int32))) then (0 : Int32) else (1 : Int32))) = 0 then (if (q_Ref_split_we wi fr bi a0) < 0 then (if (-(q_Ref_split_we wi fr bi a0)) ≤ (62 : Int32) then (shr_ (q_Ref_split_am wi fr bi a0) (-(q_Ref_split_we wi fr bi a0))) else (0 : Int64)) else (shl_ (q_Ref_split_am wi fr bi a0) (q_Ref_split_we wi fr bi a0))) else (0 : Int64))))
        else
          (0 : Int64)
      else
        (0 : Int64)
    else
      (0 : Int64)
  else
    (0 : Int64)
def q_Ref_cut_cd (cd : Int32) (wi : Int32) (fr : Int32) (bi : Int32) (mi : Int32) (am : Int64) (we : Int32) (a0 : Int64) (a1 : Int32) (a2 : Int32) : Int32 :=
  if (q_Ref_isNone wi fr bi a0) = 0 then
    if (q_Ref_isInfinite wi fr bi a0) = 0 then
      if (if (q_Ref_split_am wi fr bi a0) = (0 : Int64) then (0 : Int32) else (if (q_Ref_split_we wi fr bi a0) ≤ ((11 : Int32) + (if wi = (32 : Int32) then (29 : Int32) else (0 : Int32))) then (0 : Int32) else (1 : Int32))) = 0 then
        if (q_Ref_below (if a2 = 0 then (if (q_Ref_split_mi wi fr bi a0) = 0 then (if a1 = (64 : Int32) then (-1 : Int64) else (4294967295 : Int64)) else (0 : Int64)) else (if (q_Ref_split_mi wi fr bi a0) = 0 then ((shl_ (1 : Int64) (a1 - (1 : Int32))) - (1 : Int64)) else (shl_ (1 : Int64) (a1 - (1 : Int32))))) (if (if (q_Ref_split_am wi fr bi a0) = (0 : Int64) then (0 : Int32) else (if (q_Ref_split_we wi fr bi a0) ≤ ((11 : Int32) + (if wi = (32 : Int32) then (29 : Int32) else (0 : Int32))) then (0 : Int32) else (1 : Int32))) = 0 then (if (q_Ref_split_we wi fr bi a0) < 0 then (if (-(q_Ref_split_we wi fr bi a0)) ≤ (62 : Int32) then (shr_ (q_Ref_split_am wi fr bi a0) (-(q_Ref_split_we wi fr bi a0))) else (0 : Int64)) else (shl_ (q_Ref_split_am wi fr bi a0) (q_Ref_split_we wi fr bi a0))) else (0 : Int64))) = 0 then
          cd
        else
          (3 : Int32)
      else
        (3 : Int32)
    else
      (3 : Int32)
  else
    (4 : Int32)
def q_Ref_cut_mi (cd : Int32) (wi : Int32) (fr : Int32) (bi : Int32) (mi : Int32) (am : Int64) (we : Int32) (a0 : Int64) (a1 : Int32) (a2 : Int32) : Int32 :=
  if (q_Ref_isNone wi fr bi a0) = 0 then
    if (q_Ref_isInfinite wi fr bi a0) = 0 then
      if (if (q_Ref_split_am wi fr bi a0) = (0 : Int64) then (0 : Int32) else (if (q_Ref_split_we wi fr bi a0) ≤ ((11 : Int32) + (if wi = (32 : Int32) then (29 : Int32) else (0 : Int32))) then (0 : Int32) else (1 : Int32))) = 0 then
        if (q_Ref_below (if a2 = 0 then (if (q_Ref_split_mi wi fr bi a0) = 0 then (if a1 = (64 : Int32) then (-1 : Int64) else (4294967295 : Int64)) else (0 : Int64)) else (if (q_Ref_split_mi wi fr bi a0) = 0 then ((shl_ (1 : Int64) (a1 - (1 : Int32))) - (1 : Int64)) else (shl_ (1 : Int64) (a1 - (1 : Int32))))) (if (if (q_Ref_split_am wi fr bi a0) = (0 : Int64) then (0 : Int32) else (if (q_Ref_split_we wi fr bi a0) ≤ ((11 : Int32) + (if wi = (32 : Int32) then (29 : Int32) else (0 : Int32))) then (0 : Int32) else (1 : Int32))) = 0 then (if (q_Ref_split_we wi fr bi a0) < 0 then (if (-(q_Ref_split_we wi fr bi a0)) ≤ (62 : Int32) then (shr_ (q_Ref_split_am wi fr bi a0) (-(q_Ref_split_we wi fr bi a0))) else (0 : Int64)) else (shl_ (q_Ref_split_am wi fr bi a0) (q_Ref_split_we wi fr bi a0))) else (0 : Int64))) = 0 then
          (q_Ref_split_mi wi fr bi a0)
        else
          (q_Ref_split_mi wi fr bi a0)
      else
        (q_Ref_split_mi wi fr bi a0)
    else
      mi
  else
    mi
def q_Ref_cut_am (cd : Int32) (wi : Int32) (fr : Int32) (bi : Int32) (mi : Int32) (am : Int64) (we : Int32) (a0 : Int64) (a1 : Int32) (a2 : Int32) : Int64 :=
  if (q_Ref_isNone wi fr bi a0) = 0 then
    if (q_Ref_isInfinite wi fr bi a0) = 0 then
      if (if (q_Ref_split_am wi fr bi a0) = (0 : Int64) then (0 : Int32) else (if (q_Ref_split_we wi fr bi a0) ≤ ((11 : Int32) + (if wi = (32 : Int32) then (29 : Int32) else (0 : Int32))) then (0 : Int32) else (1 : Int32))) = 0 then
        if (q_Ref_below (if a2 = 0 then (if (q_Ref_split_mi wi fr bi a0) = 0 then (if a1 = (64 : Int32) then (-1 : Int64) else (4294967295 : Int64)) else (0 : Int64)) else (if (q_Ref_split_mi wi fr bi a0) = 0 then ((shl_ (1 : Int64) (a1 - (1 : Int32))) - (1 : Int64)) else (shl_ (1 : Int64) (a1 - (1 : Int32))))) (if (if (q_Ref_split_am wi fr bi a0) = (0 : Int64) then (0 : Int32) else (if (q_Ref_split_we wi fr bi a0) ≤ ((11 : Int32) + (if wi = (32 : Int32) then (29 : Int32) else (0 : Int32))) then (0 : Int32) else (1 : Int32))) = 0 then (if (q_Ref_split_we wi fr bi a0) < 0 then (if (-(q_Ref_split_we wi fr bi a0)) ≤ (62 : Int32) then (shr_ (q_Ref_split_am wi fr bi a0) (-(q_Ref_split_we wi fr bi a0))) else (0 : Int64)) else (shl_ (q_Ref_split_am wi fr bi a0) (q_Ref_split_we wi fr bi a0))) else (0 : Int64))) = 0 then
          (q_Ref_split_am wi fr bi a0)
        else
          (q_Ref_split_am wi fr bi a0)
      else
        (q_Ref_split_am wi fr bi a0)
    else
      am
  else
    am
def q_Ref_cut_we (cd : Int32) (wi : Int32) (fr : Int32) (bi : Int32) (mi : Int32) (am : Int64) (we : Int32) (a0 : Int64) (a1 : Int32) (a2 : Int32) : Int32 :=
  if (q_Ref_isNone wi fr bi a0) = 0 then
    if (q_Ref_isInfinite wi fr bi a0) = 0 then
      if (if (q_Ref_split_am wi fr bi a0) = (0 : Int64) then (0 : Int32) else (if (q_Ref_split_we wi fr bi a0) ≤ ((11 : Int32) + (if wi = (32 : Int32) then (29 : Int32) else (0 : Int32))) then (0 : Int32) else (1 : Int32))) = 0 then
        if (q_Ref_below (if a2 = 0 then (if (q_Ref_split_mi wi fr bi a0) = 0 then (if a1 = (64 : Int32) then (-1 : Int64) else (4294967295 : Int64)) else (0 : Int64)) else (if (q_Ref_split_mi wi fr bi a0) = 0 then ((shl_ (1 : Int64) (a1 - (1 : Int32))) - (1 : Int64)) else (shl_ (1 : Int64) (a1 - (1 : Int32))))) (if (if (q_Ref_split_am wi fr bi a0) = (0 : Int64) then (0 : Int32) else (if (q_Ref_split_we wi fr bi a0) ≤ ((11 : Int32) + (if wi = (32 : Int32) then (29 : Int32) else (0 : Int32))) then (0 : Int32) else (1 : Int32))) = 0 then (if (q_Ref_split_we wi fr bi a0) < 0 then (if (-(q_Ref_split_we wi fr bi a0)) ≤ (62 : Int32) then (shr_ (q_Ref_split_am wi fr bi a0) (-(q_Ref_split_we wi fr bi a0))) else (0 : Int64)) else (shl_ (q_Ref_split_am wi fr bi a0) (q_Ref_split_we wi fr bi a0))) else (0 : Int64))) = 0 then
          (q_Ref_split_we wi fr bi a0)
        else
          (q_Ref_split_we wi fr bi a0)
      else
        (q_Ref_split_we wi fr bi a0)
    else
      we
  else
    we
theorem kB_Ref_cut : RB y_Ref_cut b_Ref_cut 10 (some .long) 3 := ⟨wt_565, wt_564, wt_4, wt_36, by decide +kernel⟩
set_option maxHeartbeats 4000000 in
set_option maxRecDepth 100000 in
theorem c_Ref_cut (l : Launch) (A : Nat → Prop) (ad : Nat → Nat) (D : va_G) (cB cJ : ClassId) (o r : Nat) (hne : o ≠ r) (hA : ∀ q, rA o r q → A q) (cd : Int32) (la : Int64) (lo : Int32) (hi : Int32) (re : Int32) (wi : Int32) (fr : Int32) (bi : Int32) (mi : Int32) (am : Int64) (we : Int32) (f : Nat → Int32) (a0 : Int64) (a1 : Int32) (a2 : Int32) : Met l y_Ref_cut (Cond.code y_Ref_cut b_Ref_cut 10 (some .long) :: BT) ({ frames := 3, cells := 0, slots := 0, locals := 66 }) (PR A ad D cB cJ o r (rf_ cd la r lo hi re wi fr bi mi am we) f [.long a0, .int a1, .int a2]) (QRl D cB o r (q_Ref_cut cd wi fr bi mi am we a0 a1 a2) (rf_ (q_Ref_cut_cd cd wi fr bi mi am we a0 a1 a2) la r lo hi re wi fr bi (q_Ref_cut_mi cd wi fr bi mi am we a0 a1 a2) (q_Ref_cut_am cd wi fr bi mi am we a0 a1 a2) (q_Ref_cut_we cd wi fr bi mi am we a0 a1 a2)) f) 0 0 (rA o r) := by
  refine pr_ (by decide) (Nat.le_of_ble_eq_true rfl) ?_
  intro p e s m below meth c hq hP hS hr hk ls hl
  have hx := hq.1
  have hb := hq.2.1
  have hts := hq.2.2.2.2.1
  have hl : lv_has ls 10 [(0, .ref o), (1, .long a0), (3, .int a1), (4, .int a2)] := hl
  refine lv_aload_n hx hb d_Ref_cut_0 rfl (lv_at hl 0 rfl) ?_
  refine lv_lload_n hx hb d_Ref_cut_1 rfl (lv_at hl 1 rfl) ?_
  refine rv_i (As := [.long a0]) (rest := []) hq hA hP hS (c_Ref_isNone l A ad D cB cJ o r hne hA cd la lo hi re wi fr bi mi am we f a0) kB_Ref_isNone wt_566 ⟨rfl, rfl, Nat.le_of_ble_eq_true rfl, Nat.le_of_ble_eq_true rfl⟩ rfl hl.1 rfl (Nat.le_of_ble_eq_true rfl) d_Ref_cut_2 ⟨Nat.zero_le _, Nat.zero_le _⟩ (fun H locs hP hS => ?_)
  refine lv_if_eq (tgt := 15) hx hb d_Ref_cut_5 (by decide) (fun c_1 => ?_) (fun c_1 => ?_)
  · refine lv_aload_n hx hb d_Ref_cut_15 rfl (lv_at hl 0 rfl) ?_
    refine lv_lload_n hx hb d_Ref_cut_16 rfl (lv_at hl 1 rfl) ?_
    refine rv_i (As := [.long a0]) (rest := []) hq hA hP hS (c_Ref_isInfinite l A ad D cB cJ o r hne hA cd la lo hi re wi fr bi mi am we f a0) kB_Ref_isInfinite wt_583 ⟨rfl, rfl, Nat.le_of_ble_eq_true rfl, Nat.le_of_ble_eq_true rfl⟩ rfl hl.1 rfl (Nat.le_of_ble_eq_true rfl) d_Ref_cut_17 ⟨Nat.zero_le _, Nat.zero_le _⟩ (fun H locs hP hS => ?_)
    refine lv_if_eq (tgt := 30) hx hb d_Ref_cut_20 (by decide) (fun c_2 => ?_) (fun c_2 => ?_)
    · refine lv_aload_n hx hb d_Ref_cut_30 rfl (lv_at hl 0 rfl) ?_
      refine lv_lload_n hx hb d_Ref_cut_31 rfl (lv_at hl 1 rfl) ?_
      refine rv_v (As := [.long a0]) (rest := []) hq hA hP hS (c_Ref_split l A ad D cB cJ o r hne hA cd la lo hi re wi fr bi mi am we f a0) kB_Ref_split wt_587 ⟨rfl, rfl, Nat.le_of_ble_eq_true rfl, Nat.le_of_ble_eq_true rfl⟩ rfl hl.1 rfl (Nat.le_of_ble_eq_true rfl) d_Ref_cut_32 ⟨Nat.zero_le _, Nat.zero_le _⟩ (fun H locs hP hS => ?_)
      refine lv_aload_n hx hb d_Ref_cut_35 rfl (lv_at hl 0 rfl) ?_
      refine rg_ 10 hq hP (by decide) wt_494 rfl rfl d_Ref_cut_36 ?_
      refine lv_lconst (v := (0 : Int64)) hx hb d_Ref_cut_39 (by decide) ?_
      refine W.lcmp hx hb d_Ref_cut_40 ?_
      refine jn_ (J := 74) (ls := ls) (v := .int (if (q_Ref_split_am wi fr bi a0) = (0 : Int64) then (0 : Int32) else (if (q_Ref_split_we wi fr bi a0) ≤ ((11 : Int32) + (if wi = (32 : Int32) then (29 : Int32) else (0 : Int32))) then (0 : Int32) else (1 : Int32)))) (rest := []) (fun hj => ?_) ?_
      · refine lv_if_eq (tgt := 73) hx hb d_Ref_cut_41 (by decide) (fun c_3 => ?_) (fun c_3 => ?_)
        · rw [lg_cmp_eq] at c_3
          refine lv_iconst (v := (0 : Int32)) hx hb d_Ref_cut_73 (by decide) ?_
          exact (by rw [if_pos c_3] at hj; exact hj)
        · rw [lg_cmp_eq] at c_3
          refine lv_aload_n hx hb d_Ref_cut_44 rfl (lv_at hl 0 rfl) ?_
          refine rg_ 11 hq hP (by decide) wt_495 rfl rfl d_Ref_cut_45 ?_
          refine lv_bipush (v := (11 : Int32)) hx hb d_Ref_cut_48 (by decide) ?_
          refine lv_aload_n hx hb d_Ref_cut_50 rfl (lv_at hl 0 rfl) ?_
          refine rg_ 6 hq hP (by decide) wt_490 rfl rfl d_Ref_cut_51 ?_
          refine lv_bipush (v := (32 : Int32)) hx hb d_Ref_cut_54 (by decide) ?_
          refine jn_ (J := 65) (ls := ls) (v := .int (if wi = (32 : Int32) then (29 : Int32) else (0 : Int32))) (rest := [.int (11 : Int32), .int (q_Ref_split_we wi fr bi a0)]) (fun hj => ?_) ?_
          · refine lv_icmp_ne (tgt := 64) hx hb d_Ref_cut_56 (by decide) (fun c_4 => ?_) (fun c_4 => ?_)
            · refine lv_iconst (v := (0 : Int32)) hx hb d_Ref_cut_64 (by decide) ?_
              exact (by rw [if_neg c_4] at hj; exact hj)
            · refine lv_bipush (v := (29 : Int32)) hx hb d_Ref_cut_59 (by decide) ?_
              refine lv_goto (tgt := 65) hx hb d_Ref_cut_61 (by decide) ?_
              exact (by rw [if_pos c_4] at hj; exact hj)
          refine lv_iadd hx hb d_Ref_cut_65 ?_
          refine jn_ (J := 74) (ls := ls) (v := .int (if (q_Ref_split_we wi fr bi a0) ≤ ((11 : Int32) + (if wi = (32 : Int32) then (29 : Int32) else (0 : Int32))) then (0 : Int32) else (1 : Int32))) (rest := []) (fun hj => ?_) ?_
          · refine lv_icmp_le (tgt := 73) hx hb d_Ref_cut_66 (by decide) (fun c_5 => ?_) (fun c_5 => ?_)
            · refine lv_iconst (v := (0 : Int32)) hx hb d_Ref_cut_73 (by decide) ?_
              exact (by rw [if_pos c_5] at hj; exact hj)
            · refine lv_iconst (v := (1 : Int32)) hx hb d_Ref_cut_69 (by decide) ?_
              refine lv_goto (tgt := 74) hx hb d_Ref_cut_70 (by decide) ?_
              exact (by rw [if_neg c_5] at hj; exact hj)
          exact (by rw [if_neg c_3] at hj; exact hj)
      refine lv_istore (lv' := [(5, .int (if (q_Ref_split_am wi fr bi a0) = (0 : Int64) then (0 : Int32) else (if (q_Ref_split_we wi fr bi a0) ≤ ((11 : Int32) + (if wi = (32 : Int32) then (29 : Int32) else (0 : Int32))) then (0 : Int32) else (1 : Int32)))), (0, .ref o), (1, .long a0), (3, .int a1), (4, .int a2)]) hx hb d_Ref_cut_74 hl (by decide) rfl (fun ls hl => ?_)
      refine lv_iload hx hb d_Ref_cut_76 (lv_at hl 0 rfl) ?_
      refine jn_ (J := 128) (ls := ls) (v := .long (if (if (q_Ref_split_am wi fr bi a0) = (0 : Int64) then (0 : Int32) else (if (q_Ref_split_we wi fr bi a0) ≤ ((11 : Int32) + (if wi = (32 : Int32) then (29 : Int32) else (0 : Int32))) then (0 : Int32) else (1 : Int32))) = 0 then (if (q_Ref_split_we wi fr bi a0) < 0 then (if (-(q_Ref_split_we wi fr bi a0)) ≤ (62 : Int32) then (shr_ (q_Ref_split_am wi fr bi a0) (-(q_Ref_split_we wi fr bi a0))) else (0 : Int64)) else (shl_ (q_Ref_split_am wi fr bi a0) (q_Ref_split_we wi fr bi a0))) else (0 : Int64))) (rest := []) (fun hj => ?_) ?_
      · refine lv_if_eq (tgt := 85) hx hb d_Ref_cut_78 (by decide) (fun c_6 => ?_) (fun c_6 => ?_)
        · refine lv_aload_n hx hb d_Ref_cut_85 rfl (lv_at hl 1 rfl) ?_
          refine rg_ 11 hq hP (by decide) wt_495 rfl rfl d_Ref_cut_86 ?_
          refine jn_ (J := 128) (ls := ls) (v := .long (if (q_Ref_split_we wi fr bi a0) < 0 then (if (-(q_Ref_split_we wi fr bi a0)) ≤ (62 : Int32) then (shr_ (q_Ref_split_am wi fr bi a0) (-(q_Ref_split_we wi fr bi a0))) else (0 : Int64)) else (shl_ (q_Ref_split_am wi fr bi a0) (q_Ref_split_we wi fr bi a0)))) (rest := []) (fun hj => ?_) ?_
          · refine lv_if_lt (tgt := 104) hx hb d_Ref_cut_89 (by decide) (fun c_7 => ?_) (fun c_7 => ?_)
            · refine lv_aload_n hx hb d_Ref_cut_104 rfl (lv_at hl 1 rfl) ?_
              refine rg_ 11 hq hP (by decide) wt_495 rfl rfl d_Ref_cut_105 ?_
              refine lv_ineg hx hb d_Ref_cut_108 ?_
              refine lv_bipush (v := (62 : Int32)) hx hb d_Ref_cut_109 (by decide) ?_
              refine jn_ (J := 128) (ls := ls) (v := .long (if (-(q_Ref_split_we wi fr bi a0)) ≤ (62 : Int32) then (shr_ (q_Ref_split_am wi fr bi a0) (-(q_Ref_split_we wi fr bi a0))) else (0 : Int64))) (rest := []) (fun hj => ?_) ?_
              · refine lv_icmp_le (tgt := 118) hx hb d_Ref_cut_111 (by decide) (fun c_8 => ?_) (fun c_8 => ?_)
                · refine lv_aload_n hx hb d_Ref_cut_118 rfl (lv_at hl 1 rfl) ?_
                  refine rg_ 10 hq hP (by decide) wt_494 rfl rfl d_Ref_cut_119 ?_
                  refine lv_aload_n hx hb d_Ref_cut_122 rfl (lv_at hl 1 rfl) ?_
                  refine rg_ 11 hq hP (by decide) wt_495 rfl rfl d_Ref_cut_123 ?_
                  refine lv_ineg hx hb d_Ref_cut_126 ?_
                  refine lv_lshr (v := (shr_ (q_Ref_split_am wi fr bi a0) (-(q_Ref_split_we wi fr bi a0)))) hx hb d_Ref_cut_127 rfl ?_
                  exact (by rw [if_pos c_8] at hj; exact hj)
                · refine lv_lconst (v := (0 : Int64)) hx hb d_Ref_cut_114 (by decide) ?_
                  refine lv_goto (tgt := 128) hx hb d_Ref_cut_115 (by decide) ?_
                  exact (by rw [if_neg c_8] at hj; exact hj)
              exact (by rw [if_pos c_7] at hj; exact hj)
            · refine lv_aload_n hx hb d_Ref_cut_92 rfl (lv_at hl 1 rfl) ?_
              refine rg_ 10 hq hP (by decide) wt_494 rfl rfl d_Ref_cut_93 ?_
              refine lv_aload_n hx hb d_Ref_cut_96 rfl (lv_at hl 1 rfl) ?_
              refine rg_ 11 hq hP (by decide) wt_495 rfl rfl d_Ref_cut_97 ?_
              refine lv_lshl (v := (shl_ (q_Ref_split_am wi fr bi a0) (q_Ref_split_we wi fr bi a0))) hx hb d_Ref_cut_100 rfl ?_
              refine lv_goto (tgt := 128) hx hb d_Ref_cut_101 (by decide) ?_
              exact (by rw [if_neg c_7] at hj; exact hj)
          exact (by rw [if_pos c_6] at hj; exact hj)
        · refine lv_lconst (v := (0 : Int64)) hx hb d_Ref_cut_81 (by decide) ?_
          refine lv_goto (tgt := 128) hx hb d_Ref_cut_82 (by decide) ?_
          exact (by rw [if_neg c_6] at hj; exact hj)
      refine lv_lstore (lv' := [(6, .long (if (if (q_Ref_split_am wi fr bi a0) = (0 : Int64) then (0 : Int32) else (if (q_Ref_split_we wi fr bi a0) ≤ ((11 : Int32) + (if wi = (32 : Int32) then (29 : Int32) else (0 : Int32))) then (0 : Int32) else (1 : Int32))) = 0 then (if (q_Ref_split_we wi fr bi a0) < 0 then (if (-(q_Ref_split_we wi fr bi a0)) ≤ (62 : Int32) then (shr_ (q_Ref_split_am wi fr bi a0) (-(q_Ref_split_we wi fr bi a0))) else (0 : Int64)) else (shl_ (q_Ref_split_am wi fr bi a0) (q_Ref_split_we wi fr bi a0))) else (0 : Int64))), (5, .int (if (q_Ref_split_am wi fr bi a0) = (0 : Int64) then (0 : Int32) else (if (q_Ref_split_we wi fr bi a0) ≤ ((11 : Int32) + (if wi = (32 : Int32) then (29 : Int32) else (0 : Int32))) then (0 : Int32) else (1 : Int32)))), (0, .ref o), (1, .long a0), (3, .int a1), (4, .int a2)]) hx hb d_Ref_cut_128 hl (by decide) rfl (fun ls hl => ?_)
      refine lv_iload hx hb d_Ref_cut_130 (lv_at hl 5 rfl) ?_
      refine jn_ (J := 186) (ls := ls) (v := .long (if a2 = 0 then (if (q_Ref_split_mi wi fr bi a0) = 0 then (if a1 = (64 : Int32) then (-1 : Int64) else (4294967295 : Int64)) else (0 : Int64)) else (if (q_Ref_split_mi wi fr bi a0) = 0 then ((shl_ (1 : Int64) (a1 - (1 : Int32))) - (1 : Int64)) else (shl_ (1 : Int64) (a1 - (1 : Int32)))))) (rest := []) (fun hj => ?_) ?_
      · refine lv_if_eq (tgt := 160) hx hb d_Ref_cut_132 (by decide) (fun c_9 => ?_) (fun c_9 => ?_)
        · refine lv_aload_n hx hb d_Ref_cut_160 rfl (lv_at hl 2 rfl) ?_
          refine rg_ 9 hq hP (by decide) wt_493 rfl rfl d_Ref_cut_161 ?_
          refine jn_ (J := 186) (ls := ls) (v := .long (if (q_Ref_split_mi wi fr bi a0) = 0 then (if a1 = (64 : Int32) then (-1 : Int64) else (4294967295 : Int64)) else (0 : Int64))) (rest := []) (fun hj => ?_) ?_
          · refine lv_if_eq (tgt := 171) hx hb d_Ref_cut_164 (by decide) (fun c_10 => ?_) (fun c_10 => ?_)
            · refine lv_iload_n hx hb d_Ref_cut_171 rfl (lv_at hl 4 rfl) ?_
              refine lv_bipush (v := (64 : Int32)) hx hb d_Ref_cut_172 (by decide) ?_
              refine jn_ (J := 186) (ls := ls) (v := .long (if a1 = (64 : Int32) then (-1 : Int64) else (4294967295 : Int64))) (rest := []) (fun hj => ?_) ?_
              · refine lv_icmp_ne (tgt := 183) hx hb d_Ref_cut_174 (by decide) (fun c_11 => ?_) (fun c_11 => ?_)
                · refine lv_ldc2 (v := (4294967295 : Int64)) hx hb hq.2.2.2.1 (hts _ wt_549) d_Ref_cut_183 ?_
                  exact (by rw [if_neg c_11] at hj; exact hj)
                · refine lv_ldc2 (v := (-1 : Int64)) hx hb hq.2.2.2.1 (hts _ wt_595) d_Ref_cut_177 ?_
                  refine lv_goto (tgt := 186) hx hb d_Ref_cut_180 (by decide) ?_
                  exact (by rw [if_pos c_11] at hj; exact hj)
              exact (by rw [if_pos c_10] at hj; exact hj)
            · refine lv_lconst (v := (0 : Int64)) hx hb d_Ref_cut_167 (by decide) ?_
              refine lv_goto (tgt := 186) hx hb d_Ref_cut_168 (by decide) ?_
              exact (by rw [if_neg c_10] at hj; exact hj)
          exact (by rw [if_pos c_9] at hj; exact hj)
        · refine lv_aload_n hx hb d_Ref_cut_135 rfl (lv_at hl 2 rfl) ?_
          refine rg_ 9 hq hP (by decide) wt_493 rfl rfl d_Ref_cut_136 ?_
          refine jn_ (J := 186) (ls := ls) (v := .long (if (q_Ref_split_mi wi fr bi a0) = 0 then ((shl_ (1 : Int64) (a1 - (1 : Int32))) - (1 : Int64)) else (shl_ (1 : Int64) (a1 - (1 : Int32))))) (rest := []) (fun hj => ?_) ?_
          · refine lv_if_eq (tgt := 150) hx hb d_Ref_cut_139 (by decide) (fun c_12 => ?_) (fun c_12 => ?_)
            · refine lv_lconst (v := (1 : Int64)) hx hb d_Ref_cut_150 (by decide) ?_
              refine lv_iload_n hx hb d_Ref_cut_151 rfl (lv_at hl 4 rfl) ?_
              refine lv_iconst (v := (1 : Int32)) hx hb d_Ref_cut_152 (by decide) ?_
              refine lv_isub hx hb d_Ref_cut_153 ?_
              refine lv_lshl (v := (shl_ (1 : Int64) (a1 - (1 : Int32)))) hx hb d_Ref_cut_154 rfl ?_
              refine lv_lconst (v := (1 : Int64)) hx hb d_Ref_cut_155 (by decide) ?_
              refine lv_lsub hx hb d_Ref_cut_156 ?_
              refine lv_goto (tgt := 186) hx hb d_Ref_cut_157 (by decide) ?_
              exact (by rw [if_pos c_12] at hj; exact hj)
            · refine lv_lconst (v := (1 : Int64)) hx hb d_Ref_cut_142 (by decide) ?_
              refine lv_iload_n hx hb d_Ref_cut_143 rfl (lv_at hl 4 rfl) ?_
              refine lv_iconst (v := (1 : Int32)) hx hb d_Ref_cut_144 (by decide) ?_
              refine lv_isub hx hb d_Ref_cut_145 ?_
              refine lv_lshl (v := (shl_ (1 : Int64) (a1 - (1 : Int32)))) hx hb d_Ref_cut_146 rfl ?_
              refine lv_goto (tgt := 186) hx hb d_Ref_cut_147 (by decide) ?_
              exact (by rw [if_neg c_12] at hj; exact hj)
          exact (by rw [if_neg c_9] at hj; exact hj)
      refine lv_lstore (lv' := [(8, .long (if a2 = 0 then (if (q_Ref_split_mi wi fr bi a0) = 0 then (if a1 = (64 : Int32) then (-1 : Int64) else (4294967295 : Int64)) else (0 : Int64)) else (if (q_Ref_split_mi wi fr bi a0) = 0 then ((shl_ (1 : Int64) (a1 - (1 : Int32))) - (1 : Int64)) else (shl_ (1 : Int64) (a1 - (1 : Int32)))))), (6, .long (if (if (q_Ref_split_am wi fr bi a0) = (0 : Int64) then (0 : Int32) else (if (q_Ref_split_we wi fr bi a0) ≤ ((11 : Int32) + (if wi = (32 : Int32) then (29 : Int32) else (0 : Int32))) then (0 : Int32) else (1 : Int32))) = 0 then (if (q_Ref_split_we wi fr bi a0) < 0 then (if (-(q_Ref_split_we wi fr bi a0)) ≤ (62 : Int32) then (shr_ (q_Ref_split_am wi fr bi a0) (-(q_Ref_split_we wi fr bi a0))) else (0 : Int64)) else (shl_ (q_Ref_split_am wi fr bi a0) (q_Ref_split_we wi fr bi a0))) else (0 : Int64))), (5, .int (if (q_Ref_split_am wi fr bi a0) = (0 : Int64) then (0 : Int32) else (if (q_Ref_split_we wi fr bi a0) ≤ ((11 : Int32) + (if wi = (32 : Int32) then (29 : Int32) else (0 : Int32))) then (0 : Int32) else (1 : Int32)))), (0, .ref o), (1, .long a0), (3, .int a1), (4, .int a2)]) hx hb d_Ref_cut_186 hl (by decide) rfl (fun ls hl => ?_)
      refine lv_iload hx hb d_Ref_cut_188 (lv_at hl 2 rfl) ?_
      refine lv_if_ne (tgt := 203) hx hb d_Ref_cut_190 (by decide) (fun c_13 => ?_) (fun c_13 => ?_)
      · refine lv_aload_n hx hb d_Ref_cut_203 rfl (lv_at hl 3 rfl) ?_
        refine lv_iconst (v := (3 : Int32)) hx hb d_Ref_cut_204 (by decide) ?_
        refine rp_ 0 (ty := tR 0) hq hne hP hS (by decide) wt_484 rfl rfl rfl rfl rfl (Nat.le_of_ble_eq_true rfl) d_Ref_cut_205 (fun H locs hP hS => ?_)
        have hP : va_P D clR (rw_ o r cB (rf_ (3 : Int32) la r lo hi re wi fr bi (q_Ref_split_mi wi fr bi a0) (q_Ref_split_am wi fr bi a0) (q_Ref_split_we wi fr bi a0)) f) H := hP
        refine lv_lconst (v := (0 : Int64)) hx hb d_Ref_cut_208 (by decide) ?_
        exact rr_l hq hr hk  hP hS (by unfold q_Ref_cut; exact (((if_pos c_1).trans ((if_pos c_2).trans ((if_neg c_13).trans rfl)))).symm) (by rw [show q_Ref_cut_cd cd wi fr bi mi am we a0 a1 a2 = (3 : Int32) from by unfold q_Ref_cut_cd; exact ((if_pos c_1).trans ((if_pos c_2).trans ((if_neg c_13).trans rfl))), show q_Ref_cut_mi cd wi fr bi mi am we a0 a1 a2 = (q_Ref_split_mi wi fr bi a0) from by unfold q_Ref_cut_mi; exact ((if_pos c_1).trans ((if_pos c_2).trans ((if_neg c_13).trans rfl))), show q_Ref_cut_am cd wi fr bi mi am we a0 a1 a2 = (q_Ref_split_am wi fr bi a0) from by unfold q_Ref_cut_am; exact ((if_pos c_1).trans ((if_pos c_2).trans ((if_neg c_13).trans rfl))), show q_Ref_cut_we cd wi fr bi mi am we a0 a1 a2 = (q_Ref_split_we wi fr bi a0) from by unfold q_Ref_cut_we; exact ((if_pos c_1).trans ((if_pos c_2).trans ((if_neg c_13).trans rfl)))]) rfl d_Ref_cut_209
      · refine lv_lload hx hb d_Ref_cut_193 (lv_at hl 0 rfl) ?_
        refine lv_lload hx hb d_Ref_cut_195 (lv_at hl 1 rfl) ?_
        refine hi_ (As := [.long (if a2 = 0 then (if (q_Ref_split_mi wi fr bi a0) = 0 then (if a1 = (64 : Int32) then (-1 : Int64) else (4294967295 : Int64)) else (0 : Int64)) else (if (q_Ref_split_mi wi fr bi a0) = 0 then ((shl_ (1 : Int64) (a1 - (1 : Int32))) - (1 : Int64)) else (shl_ (1 : Int64) (a1 - (1 : Int32))))), .long (if (if (q_Ref_split_am wi fr bi a0) = (0 : Int64) then (0 : Int32) else (if (q_Ref_split_we wi fr bi a0) ≤ ((11 : Int32) + (if wi = (32 : Int32) then (29 : Int32) else (0 : Int32))) then (0 : Int32) else (1 : Int32))) = 0 then (if (q_Ref_split_we wi fr bi a0) < 0 then (if (-(q_Ref_split_we wi fr bi a0)) ≤ (62 : Int32) then (shr_ (q_Ref_split_am wi fr bi a0) (-(q_Ref_split_we wi fr bi a0))) else (0 : Int64)) else (shl_ (q_Ref_split_am wi fr bi a0) (q_Ref_split_we wi fr bi a0))) else (0 : Int64))]) (rest := []) hq hA hS (c_Ref_below l A ad (if a2 = 0 then (if (q_Ref_split_mi wi fr bi a0) = 0 then (if a1 = (64 : Int32) then (-1 : Int64) else (4294967295 : Int64)) else (0 : Int64)) else (if (q_Ref_split_mi wi fr bi a0) = 0 then ((shl_ (1 : Int64) (a1 - (1 : Int32))) - (1 : Int64)) else (shl_ (1 : Int64) (a1 - (1 : Int32))))) (if (if (q_Ref_split_am wi fr bi a0) = (0 : Int64) then (0 : Int32) else (if (q_Ref_split_we wi fr bi a0) ≤ ((11 : Int32) + (if wi = (32 : Int32) then (29 : Int32) else (0 : Int32))) then (0 : Int32) else (1 : Int32))) = 0 then (if (q_Ref_split_we wi fr bi a0) < 0 then (if (-(q_Ref_split_we wi fr bi a0)) ≤ (62 : Int32) then (shr_ (q_Ref_split_am wi fr bi a0) (-(q_Ref_split_we wi fr bi a0))) else (0 : Int64)) else (shl_ (q_Ref_split_am wi fr bi a0) (q_Ref_split_we wi fr bi a0))) else (0 : Int64))) kB_Ref_below wt_596 ⟨rfl, rfl, Nat.le_of_ble_eq_true rfl, Nat.le_of_ble_eq_true rfl⟩ rfl hl.1 rfl (Nat.le_of_ble_eq_true rfl) d_Ref_cut_197 ⟨Nat.zero_le _, Nat.zero_le _⟩ ?_
        refine lv_if_eq (tgt := 210) hx hb d_Ref_cut_200 (by decide) (fun c_14 => ?_) (fun c_14 => ?_)
        · refine lv_aload_n hx hb d_Ref_cut_210 rfl (lv_at hl 3 rfl) ?_
          refine rg_ 9 hq hP (by decide) wt_493 rfl rfl d_Ref_cut_211 ?_
          refine jn_ (J := 225) (ls := ls) (v := .long (if (q_Ref_split_mi wi fr bi a0) = 0 then (if (if (q_Ref_split_am wi fr bi a0) = (0 : Int64) then (0 : Int32) else (if (q_Ref_split_we wi fr bi a0) ≤ ((11 : Int32) + (if wi = (32 : Int32) then (29 : Int32) else (0 : Int32))) then (0 : Int32) else (1 : Int32))) = 0 then (if (q_Ref_split_we wi fr bi a0) < 0 then (if (-(q_Ref_split_we wi fr bi a0)) ≤ (62 : Int32) then (shr_ (q_Ref_split_am wi fr bi a0) (-(q_Ref_split_we wi fr bi a0))) else (0 : Int64)) else (shl_ (q_Ref_split_am wi fr bi a0) (q_Ref_split_we wi fr bi a0))) else (0 : Int64)) else (-(if (if (q_Ref_split_am wi fr bi a0) = (0 : Int64) then (0 : Int32) else (if (q_Ref_split_we wi fr bi a0) ≤ ((11 : Int32) + (if wi = (32 : Int32) then (29 : Int32) else (0 : Int32))) then (0 : Int32) else (1 : Int32))) = 0 then (if (q_Ref_split_we wi fr bi a0) < 0 then (if (-(q_Ref_split_we wi fr bi a0)) ≤ (62 : Int32) then (shr_ (q_Ref_split_am wi fr bi a0) (-(q_Ref_split_we wi fr bi a0))) else (0 : Int64)) else (shl_ (q_Ref_split_am wi fr bi a0) (q_Ref_split_we wi fr bi a0))) else (0 : Int64))))) (rest := []) (fun hj => ?_) ?_
          · refine lv_if_eq (tgt := 223) hx hb d_Ref_cut_214 (by decide) (fun c_15 => ?_) (fun c_15 => ?_)
            · refine lv_lload hx hb d_Ref_cut_223 (lv_at hl 1 rfl) ?_
              exact (by rw [if_pos c_15] at hj; exact hj)
            · refine lv_lload hx hb d_Ref_cut_217 (lv_at hl 1 rfl) ?_
              refine lv_lneg hx hb d_Ref_cut_219 ?_
              refine lv_goto (tgt := 225) hx hb d_Ref_cut_220 (by decide) ?_
              exact (by rw [if_neg c_15] at hj; exact hj)
          exact rr_l hq hr hk  hP hS (by unfold q_Ref_cut; exact (((if_pos c_1).trans ((if_pos c_2).trans ((if_pos c_13).trans ((if_pos c_14).trans rfl))))).symm) (by rw [show q_Ref_cut_cd cd wi fr bi mi am we a0 a1 a2 = cd from by unfold q_Ref_cut_cd; exact ((if_pos c_1).trans ((if_pos c_2).trans ((if_pos c_13).trans ((if_pos c_14).trans rfl)))), show q_Ref_cut_mi cd wi fr bi mi am we a0 a1 a2 = (q_Ref_split_mi wi fr bi a0) from by unfold q_Ref_cut_mi; exact ((if_pos c_1).trans ((if_pos c_2).trans ((if_pos c_13).trans ((if_pos c_14).trans rfl)))), show q_Ref_cut_am cd wi fr bi mi am we a0 a1 a2 = (q_Ref_split_am wi fr bi a0) from by unfold q_Ref_cut_am; exact ((if_pos c_1).trans ((if_pos c_2).trans ((if_pos c_13).trans ((if_pos c_14).trans rfl)))), show q_Ref_cut_we cd wi fr bi mi am we a0 a1 a2 = (q_Ref_split_we wi fr bi a0) from by unfold q_Ref_cut_we; exact ((if_pos c_1).trans ((if_pos c_2).trans ((if_pos c_13).trans ((if_pos c_14).trans rfl))))]) rfl d_Ref_cut_225
        · refine lv_aload_n hx hb d_Ref_cut_203 rfl (lv_at hl 3 rfl) ?_
          refine lv_iconst (v := (3 : Int32)) hx hb d_Ref_cut_204 (by decide) ?_
          refine rp_ 0 (ty := tR 0) hq hne hP hS (by decide) wt_484 rfl rfl rfl rfl rfl (Nat.le_of_ble_eq_true rfl) d_Ref_cut_205 (fun H locs hP hS => ?_)
          have hP : va_P D clR (rw_ o r cB (rf_ (3 : Int32) la r lo hi re wi fr bi (q_Ref_split_mi wi fr bi a0) (q_Ref_split_am wi fr bi a0) (q_Ref_split_we wi fr bi a0)) f) H := hP
          refine lv_lconst (v := (0 : Int64)) hx hb d_Ref_cut_208 (by decide) ?_
          exact rr_l hq hr hk  hP hS (by unfold q_Ref_cut; exact (((if_pos c_1).trans ((if_pos c_2).trans ((if_pos c_13).trans ((if_neg c_14).trans rfl))))).symm) (by rw [show q_Ref_cut_cd cd wi fr bi mi am we a0 a1 a2 = (3 : Int32) from by unfold q_Ref_cut_cd; exact ((if_pos c_1).trans ((if_pos c_2).trans ((if_pos c_13).trans ((if_neg c_14).trans rfl)))), show q_Ref_cut_mi cd wi fr bi mi am we a0 a1 a2 = (q_Ref_split_mi wi fr bi a0) from by unfold q_Ref_cut_mi; exact ((if_pos c_1).trans ((if_pos c_2).trans ((if_pos c_13).trans ((if_neg c_14).trans rfl)))), show q_Ref_cut_am cd wi fr bi mi am we a0 a1 a2 = (q_Ref_split_am wi fr bi a0) from by unfold q_Ref_cut_am; exact ((if_pos c_1).trans ((if_pos c_2).trans ((if_pos c_13).trans ((if_neg c_14).trans rfl)))), show q_Ref_cut_we cd wi fr bi mi am we a0 a1 a2 = (q_Ref_split_we wi fr bi a0) from by unfold q_Ref_cut_we; exact ((if_pos c_1).trans ((if_pos c_2).trans ((if_pos c_13).trans ((if_neg c_14).trans rfl))))]) rfl d_Ref_cut_209
    · refine lv_aload_n hx hb d_Ref_cut_23 rfl (lv_at hl 0 rfl) ?_
      refine lv_iconst (v := (3 : Int32)) hx hb d_Ref_cut_24 (by decide) ?_
      refine rp_ 0 (ty := tR 0) hq hne hP hS (by decide) wt_484 rfl rfl rfl rfl rfl (Nat.le_of_ble_eq_true rfl) d_Ref_cut_25 (fun H locs hP hS => ?_)
      have hP : va_P D clR (rw_ o r cB (rf_ (3 : Int32) la r lo hi re wi fr bi mi am we) f) H := hP
      refine lv_lconst (v := (0 : Int64)) hx hb d_Ref_cut_28 (by decide) ?_
      exact rr_l hq hr hk  hP hS (by unfold q_Ref_cut; exact (((if_pos c_1).trans ((if_neg c_2).trans rfl))).symm) (by rw [show q_Ref_cut_cd cd wi fr bi mi am we a0 a1 a2 = (3 : Int32) from by unfold q_Ref_cut_cd; exact ((if_pos c_1).trans ((if_neg c_2).trans rfl)), show q_Ref_cut_mi cd wi fr bi mi am we a0 a1 a2 = mi from by unfold q_Ref_cut_mi; exact ((if_pos c_1).trans ((if_neg c_2).trans rfl)), show q_Ref_cut_am cd wi fr bi mi am we a0 a1 a2 = am from by unfold q_Ref_cut_am; exact ((if_pos c_1).trans ((if_neg c_2).trans rfl)), show q_Ref_cut_we cd wi fr bi mi am we a0 a1 a2 = we from by unfold q_Ref_cut_we; exact ((if_pos c_1).trans ((if_neg c_2).trans rfl))]) rfl d_Ref_cut_29
  · refine lv_aload_n hx hb d_Ref_cut_8 rfl (lv_at hl 0 rfl) ?_
    refine lv_iconst (v := (4 : Int32)) hx hb d_Ref_cut_9 (by decide) ?_
    refine rp_ 0 (ty := tR 0) hq hne hP hS (by decide) wt_484 rfl rfl rfl rfl rfl (Nat.le_of_ble_eq_true rfl) d_Ref_cut_10 (fun H locs hP hS => ?_)
    have hP : va_P D clR (rw_ o r cB (rf_ (4 : Int32) la r lo hi re wi fr bi mi am we) f) H := hP
    refine lv_lconst (v := (0 : Int64)) hx hb d_Ref_cut_13 (by decide) ?_
    exact rr_l hq hr hk  hP hS (by unfold q_Ref_cut; exact (((if_neg c_1).trans rfl)).symm) (by rw [show q_Ref_cut_cd cd wi fr bi mi am we a0 a1 a2 = (4 : Int32) from by unfold q_Ref_cut_cd; exact ((if_neg c_1).trans rfl), show q_Ref_cut_mi cd wi fr bi mi am we a0 a1 a2 = mi from by unfold q_Ref_cut_mi; exact ((if_neg c_1).trans rfl), show q_Ref_cut_am cd wi fr bi mi am we a0 a1 a2 = am from by unfold q_Ref_cut_am; exact ((if_neg c_1).trans rfl), show q_Ref_cut_we cd wi fr bi mi am we a0 a1 a2 = we from by unfold q_Ref_cut_we; exact ((if_neg c_1).trans rfl)]) rfl d_Ref_cut_14
