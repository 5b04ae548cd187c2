set_option maxHeartbeats 4000000 in
set_option maxRecDepth 100000 in
theorem lp_Ref_product {p : Program} {l : Launch} {e : Env} {s : State} {m : MethodId} {args : Array Value} {below : List Frame} {meth : Method} {c : Code} {A : Nat → Prop} {ad : Nat → Nat} {D : va_G} {cB cJ : ClassId} {o r : Nat} (hq : FR p s m args c A ad D cB cJ b_Ref_product 10 y_Ref_product.cls) (hne : o ≠ r) (hA : ∀ q, rA o r q → A q) (hr : meth.sig.returnType = some .long) (hk : meth.locks = false) (cd : Int32) (la : Int64) (wi fr bi mi we : Int32) (F B : Nat) (hfm : fmR wi fr bi F B) (X Y P : Nat) (pw ng : Int32) (hX : X < 2 ^ 53) (hY : Y < 2 ^ 53) (hX0 : 0 < X) (hY0 : 0 < Y) (hPw : (2200 : Int32) + pw = nI P) (hP4 : P ≤ 4200) (w : Int64) (hw : w = q_Ref_signed wi (lN (rR_ F B (2 * (X * Y * 2 ^ P) + (if (0 : Int32) = 0 then 0 else 1)) (-2201))) ng) :
    ∀ (d j : Nat) (lo hi : Int32) (f : Nat → Int32) (H : Heap) (locs : List Loc) (ls : Array Slot), j + d = 53 → RowIs f (X % 2 ^ j * Y * 2 ^ P) → RI lo hi (X % 2 ^ j * Y * 2 ^ P) → lv_has ls 10 [(9, .int (nI j)), (8, .int pw), (6, .long (lN X)), (5, .int ng), (0, .ref o)] → va_P D clR (rw_ o r cB (rf_ cd la r lo hi 0 wi fr bi mi (lN Y) we) f) H → va_S (rA o r) s.heap H locs → W p l e ({ frames := 3, cells := 0, slots := 0, locals := 73 } : Room) s m args below meth c H locs 0 0 (MQ below (QP D cB o r (fun v fs' f' => v = some (.long w) ∧ SJ r cd la fs' f')) args s 0 0 (rA o r)) (F0 m 128 ls []) := by
  have hx := hq.1
  have hb := hq.2.1
  have hts := hq.2.2.2.2.1
  intro d
  induction d with
  | zero =>
    intro j lo hi f H locs ls hd hf hI hl hP hS
    have hj : j = 53 := by omega
    subst hj
    rw [Nat.mod_eq_of_lt hX] at hf hI
    have hpos : 0 < X * Y * 2 ^ P := Nat.mul_pos (Nat.mul_pos hX0 hY0) (Nat.two_pow_pos P)
    refine lv_iload hx hb d_Ref_product_128 (lv_at hl 0 rfl) ?_
    refine lv_bipush (v := (53 : Int32)) hx hb d_Ref_product_130 (by decide) ?_
    refine lv_icmp_ge (tgt := 166) hx hb d_Ref_product_132 (by decide) (fun _ => ?_) (fun c9 => absurd (by decide) c9)
    refine lv_aload_n hx hb d_Ref_product_166 rfl (lv_at hl 4 rfl) ?_
    refine lv_iload hx hb d_Ref_product_167 (lv_at hl 3 rfl) ?_
    refine rv_l (As := [.int ng]) (rest := []) hq hA hP hS (c_Ref_rounded l A ad D cB cJ o r hne hA cd la lo hi 0 wi fr bi mi (lN Y) we f ng (X * Y * 2 ^ P) F B hf hI hpos (Or.inl rfl) (fmR_f hfm) (fmR_b hfm) (fmR_FB hfm)) kB_Ref_rounded wt_619 ⟨rfl, rfl, Nat.le_of_ble_eq_true rfl, Nat.le_of_ble_eq_true rfl⟩ rfl hl.1 rfl (Nat.le_of_ble_eq_true rfl) d_Ref_product_169 ⟨Nat.zero_le _, Nat.zero_le _⟩ (fun H locs hP hS => ?_)
    exact qr_l hq hr hk hP hS ⟨congrArg (fun z => some (Value.long z)) hw.symm, _, _, _, _, _, _, _, _, _, _, rfl, Or.inl rfl, hf, hI⟩ d_Ref_product_172
  | succ d ih =>
    intro j lo hi f H locs ls hd hf hI hl hP hS
    refine lv_iload hx hb d_Ref_product_128 (lv_at hl 0 rfl) ?_
    refine lv_bipush (v := (53 : Int32)) hx hb d_Ref_product_130 (by decide) ?_
    refine lv_icmp_ge (tgt := 166) hx hb d_Ref_product_132 (by decide) (fun c9 => absurd c9 (nI_ge (b := 53) (by omega) (by decide))) (fun _ => ?_)
    refine lv_lload hx hb d_Ref_product_135 (lv_at hl 2 rfl) ?_
    refine lv_iload hx hb d_Ref_product_137 (lv_at hl 0 rfl) ?_
    refine lv_lshr (v := (shr_ (lN X) (nI j))) hx hb d_Ref_product_139 rfl ?_
    refine lv_lconst (v := (1 : Int64)) hx hb d_Ref_product_140 (by decide) ?_
    refine lv_land hx hb d_Ref_product_141 ?_
    refine lv_lconst (v := (1 : Int64)) hx hb d_Ref_product_142 (by decide) ?_
    refine W.lcmp hx hb d_Ref_product_143 ?_
    by_cases hbit : X / 2 ^ j % 2 = 1
    · refine lv_if_ne (tgt := 160) hx hb d_Ref_product_144 (by decide) (fun c9 => absurd ((lg_cmp_eq _ _).mpr ((lv_63 hX (by omega)).mpr hbit)) c9) (fun _ => ?_)
      refine lv_aload_n hx hb d_Ref_product_147 rfl (lv_at hl 4 rfl) ?_
      refine lv_aload_n hx hb d_Ref_product_148 rfl (lv_at hl 4 rfl) ?_
      refine rg_ 10 hq hP (by decide) wt_494 rfl rfl d_Ref_product_149 ?_
      refine lv_iload hx hb d_Ref_product_152 (lv_at hl 1 rfl) ?_
      refine lv_iload hx hb d_Ref_product_154 (lv_at hl 0 rfl) ?_
      refine lv_iadd hx hb d_Ref_product_156 ?_
      have hP2 : (2200 : Int32) + (pw + nI j) = nI (P + j) := by rw [← Int32.add_assoc, hPw, nI_add]
      have hfit : X % 2 ^ j * Y * 2 ^ P + un_ (lN Y) * 2 ^ (P + j) < 2 ^ 4399 := by
        rw [un_of (by omega)]
        exact (pr_fit hX hY hP4).resolve_right (by omega)
      refine rq_ (As := [.long (lN Y), .int (pw + nI j)]) (rest := []) hq hA hP hS (c_Ref_addX l A ad D cB cJ o r hne hA cd la lo hi 0 wi fr bi mi (lN Y) we f (X % 2 ^ j * Y * 2 ^ P) hf hI (lN Y) (pw + nI j) (P + j) hP2 (by omega) hfit) kB_Ref_add wt_611 ⟨rfl, rfl, Nat.le_of_ble_eq_true rfl, Nat.le_of_ble_eq_true rfl⟩ rfl hl.1 rfl (Nat.le_of_ble_eq_true rfl) d_Ref_product_157 ⟨Nat.zero_le _, Nat.zero_le _⟩ (fun v9 fs9 f9 H locs hk9 hP hS => ?_)
      obtain ⟨rfl, lo9, hi9, rfl, hf9, hI9⟩ := hk9
      rw [un_of (show Y < 2 ^ 64 by omega)] at hf9 hI9
      have hst := pr_step (X := X) (Y := Y) (P := P) (j := j)
      rw [hbit, Nat.one_mul] at hst
      rw [← hst] at hf9 hI9
      refine lv_iinc (v := nI (j + 1)) (lv' := [(9, .int (nI (j + 1))), (8, .int pw), (6, .long (lN X)), (5, .int ng), (0, .ref o)]) hx hb d_Ref_product_160 hl (k := 0) rfl (nI_1 j) (by decide) rfl (fun ls hl => ?_)
      refine lv_goto (tgt := 128) hx hb d_Ref_product_163 (by decide) ?_
      exact ih (j + 1) lo9 hi9 f9 H locs ls (by omega) hf9 hI9 hl hP hS
    · refine lv_if_ne (tgt := 160) hx hb d_Ref_product_144 (by decide) (fun _ => ?_) (fun c9 => absurd ((lv_63 hX (by omega)).mp ((lg_cmp_eq _ _).mp c9)) hbit)
      have hst := pr_step (X := X) (Y := Y) (P := P) (j := j)
      rw [show X / 2 ^ j % 2 = 0 by omega] at hst
      simp only [Nat.zero_mul, Nat.add_zero] at hst
      rw [← hst] at hf hI
      refine lv_iinc (v := nI (j + 1)) (lv' := [(9, .int (nI (j + 1))), (8, .int pw), (6, .long (lN X)), (5, .int ng), (0, .ref o)]) hx hb d_Ref_product_160 hl (k := 0) rfl (nI_1 j) (by decide) rfl (fun ls hl => ?_)
      refine lv_goto (tgt := 128) hx hb d_Ref_product_163 (by decide) ?_
      exact ih (j + 1) lo hi f H locs ls (by omega) hf hI hl hP hS
def q_Ref_product (F B : Nat) (wi : Int32) (fr : Int32) (bi : Int32) (a0 : Int64) (a1 : Int64) : Int64 :=
  if (q_Ref_isInfinite wi fr bi a0) = 0 then
    if (q_Ref_isInfinite wi fr bi a1) = 0 then
      if (q_Ref_isZero wi a0) = 0 then
        if (q_Ref_isZero wi a1) = 0 then
          (q_Ref_signed wi (lN (rR_ F B (2 * (un_ (q_Ref_split_am wi fr bi a0) * un_ (q_Ref_split_am wi fr bi a1) * 2 ^ (w2_ (q_Ref_split_we wi fr bi a0) (q_Ref_split_we wi fr bi a1))) + (if (0 : Int32) = 0 then 0 else 1)) (-2201))) (if (q_Ref_isMinus wi a0) = (q_Ref_isMinus wi a1) then (0 : Int32) else (1 : Int32)))
        else
          (q_Ref_signed wi (0 : Int64) (if (q_Ref_isMinus wi a0) = (q_Ref_isMinus wi a1) then (0 : Int32) else (1 : Int32)))
      else
        (q_Ref_signed wi (0 : Int64) (if (q_Ref_isMinus wi a0) = (q_Ref_isMinus wi a1) then (0 : Int32) else (1 : Int32)))
    else
      if (q_Ref_isZero wi a0) = 0 then
        if (q_Ref_isZero wi a1) = 0 then
          (q_Ref_infinite wi fr bi (if (q_Ref_isMinus wi a0) = (q_Ref_isMinus wi a1) then (0 : Int32) else (1 : Int32)))
        else
          (q_Ref_noNumber wi)
      else
        (q_Ref_noNumber wi)
  else
    if (q_Ref_isZero wi a0) = 0 then
      if (q_Ref_isZero wi a1) = 0 then
        (q_Ref_infinite wi fr bi (if (q_Ref_isMinus wi a0) = (q_Ref_isMinus wi a1) then (0 : Int32) else (1 : Int32)))
      else
        (q_Ref_noNumber wi)
    else
      (q_Ref_noNumber wi)
theorem kB_Ref_product : RB y_Ref_product b_Ref_product 10 (some .long) 2 := ⟨wt_670, wt_669, wt_27, wt_36, by decide +kernel⟩
set_option maxHeartbeats 4000000 in
set_option maxRecDepth 100000 in
theorem c_Ref_product (l : Launch) (A : Nat → Prop) (ad : Nat → Nat) (D : va_G) (cB cJ : ClassId) (o r : Nat) (hne : o ≠ r) (hA : ∀ q, rA o r q → A q) (cd : Int32) (la : Int64) (lo : Int32) (hi : Int32) (re : Int32) (wi : Int32) (fr : Int32) (bi : Int32) (mi : Int32) (am : Int64) (we : Int32) (f : Nat → Int32) (N : Nat) (hf : RowIs f N) (hI : RI lo hi N) (hre : re = 0 ∨ re = 1) (a0 : Int64) (a1 : Int64) (F B : Nat) (hfm : fmR wi fr bi F B) : Met l y_Ref_product (Cond.code y_Ref_product b_Ref_product 10 (some .long) :: BT) ({ frames := 3, cells := 0, slots := 0, locals := 73 }) (PR A ad D cB cJ o r (rf_ cd la r lo hi re wi fr bi mi am we) f [.long a0, .long a1]) (QP D cB o r (fun v fs' f' => v = some (.long (q_Ref_product F B wi fr bi a0 a1)) ∧ SJ r cd la fs' f')) 0 0 (rA o r) := by
  refine pr_ (by decide) (Nat.le_of_ble_eq_true rfl) ?_
  intro p e s m below meth c hq hP hS hr hk ls hl
  have hx := hq.1
  have hb := hq.2.1
  have hts := hq.2.2.2.2.1
  have hl : lv_has ls 10 [(0, .ref o), (1, .long a0), (3, .long a1)] := hl
  refine lv_aload_n hx hb d_Ref_product_0 rfl (lv_at hl 0 rfl) ?_
  refine lv_lload_n hx hb d_Ref_product_1 rfl (lv_at hl 1 rfl) ?_
  refine rv_i (As := [.long a0]) (rest := []) hq hA hP hS (c_Ref_isMinus l A ad D cB cJ o r hne hA cd la lo hi re wi fr bi mi am we f a0) kB_Ref_isMinus wt_591 ⟨rfl, rfl, Nat.le_of_ble_eq_true rfl, Nat.le_of_ble_eq_true rfl⟩ rfl hl.1 rfl (Nat.le_of_ble_eq_true rfl) d_Ref_product_2 ⟨Nat.zero_le _, Nat.zero_le _⟩ (fun H locs hP hS => ?_)
  refine lv_aload_n hx hb d_Ref_product_5 rfl (lv_at hl 0 rfl) ?_
  refine lv_lload_n hx hb d_Ref_product_6 rfl (lv_at hl 2 rfl) ?_
  refine rv_i (As := [.long a1]) (rest := [.int (q_Ref_isMinus wi a0)]) hq hA hP hS (c_Ref_isMinus l A ad D cB cJ o r hne hA cd la lo hi re wi fr bi mi am we f a1) kB_Ref_isMinus wt_591 ⟨rfl, rfl, Nat.le_of_ble_eq_true rfl, Nat.le_of_ble_eq_true rfl⟩ rfl hl.1 rfl (Nat.le_of_ble_eq_true rfl) d_Ref_product_7 ⟨Nat.zero_le _, Nat.zero_le _⟩ (fun H locs hP hS => ?_)
  refine jn_ (J := 18) (ls := ls) (v := .int (if (q_Ref_isMinus wi a0) = (q_Ref_isMinus wi a1) then (0 : Int32) else (1 : Int32))) (rest := []) (fun hj => ?_) ?_
  · refine lv_icmp_eq (tgt := 17) hx hb d_Ref_product_10 (by decide) (fun c_1 => ?_) (fun c_1 => ?_)
    · refine lv_iconst (v := (0 : Int32)) hx hb d_Ref_product_17 (by decide) ?_
      exact (by rw [if_pos c_1] at hj; exact hj)
    · refine lv_iconst (v := (1 : Int32)) hx hb d_Ref_product_13 (by decide) ?_
      refine lv_goto (tgt := 18) hx hb d_Ref_product_14 (by decide) ?_
      exact (by rw [if_neg c_1] at hj; exact hj)
  refine lv_istore (lv' := [(5, .int (if (q_Ref_isMinus wi a0) = (q_Ref_isMinus wi a1) then (0 : Int32) else (1 : Int32))), (0, .ref o), (1, .long a0), (3, .long a1)]) hx hb d_Ref_product_18 hl (by decide) rfl (fun ls hl => ?_)
  refine lv_aload_n hx hb d_Ref_product_20 rfl (lv_at hl 1 rfl) ?_
  refine lv_lload_n hx hb d_Ref_product_21 rfl (lv_at hl 2 rfl) ?_
  refine rv_i (As := [.long a0]) (rest := []) hq hA hP hS (c_Ref_isInfinite l A ad D cB cJ o r hne hA cd la lo hi re wi fr bi mi am we f a0) kB_Ref_isInfinite wt_583 ⟨rfl, rfl, Nat.le_of_ble_eq_true rfl, Nat.le_of_ble_eq_true rfl⟩ rfl hl.1 rfl (Nat.le_of_ble_eq_true rfl) d_Ref_product_22 ⟨Nat.zero_le _, Nat.zero_le _⟩ (fun H locs hP hS => ?_)
  refine lv_if_ne (tgt := 36) hx hb d_Ref_product_25 (by decide) (fun c_2 => ?_) (fun c_2 => ?_)
  · refine lv_aload_n hx hb d_Ref_product_36 rfl (lv_at hl 1 rfl) ?_
    refine lv_lload_n hx hb d_Ref_product_37 rfl (lv_at hl 2 rfl) ?_
    refine rv_i (As := [.long a0]) (rest := []) hq hA hP hS (c_Ref_isZero l A ad D cB cJ o r hne hA cd la lo hi re wi fr bi mi am we f a0) kB_Ref_isZero wt_635 ⟨rfl, rfl, Nat.le_of_ble_eq_true rfl, Nat.le_of_ble_eq_true rfl⟩ rfl hl.1 rfl (Nat.le_of_ble_eq_true rfl) d_Ref_product_38 ⟨Nat.zero_le _, Nat.zero_le _⟩ (fun H locs hP hS => ?_)
    refine lv_if_ne (tgt := 52) hx hb d_Ref_product_41 (by decide) (fun c_3 => ?_) (fun c_3 => ?_)
    · refine lv_aload_n hx hb d_Ref_product_52 rfl (lv_at hl 1 rfl) ?_
      refine rv_l (As := []) (rest := []) hq hA hP hS (c_Ref_noNumber l A ad D cB cJ o r hne hA cd la lo hi re wi fr bi mi am we f ) kB_Ref_noNumber wt_639 ⟨rfl, rfl, Nat.le_of_ble_eq_true rfl, Nat.le_of_ble_eq_true rfl⟩ rfl hl.1 rfl (Nat.le_of_ble_eq_true rfl) d_Ref_product_53 ⟨Nat.zero_le _, Nat.zero_le _⟩ (fun H locs hP hS => ?_)
      refine lv_goto (tgt := 65) hx hb d_Ref_product_56 (by decide) ?_
      exact qr_l hq hr hk hP hS ⟨congrArg (fun z => some (Value.long z)) (by unfold q_Ref_product; exact (((if_neg c_2).trans ((if_neg c_3).trans rfl))).symm), _, _, _, _, _, _, _, _, _, _, rfl, hre, hf, hI⟩ d_Ref_product_65
    · refine lv_aload_n hx hb d_Ref_product_44 rfl (lv_at hl 1 rfl) ?_
      refine lv_lload_n hx hb d_Ref_product_45 rfl (lv_at hl 3 rfl) ?_
      refine rv_i (As := [.long a1]) (rest := []) hq hA hP hS (c_Ref_isZero l A ad D cB cJ o r hne hA cd la lo hi re wi fr bi mi am we f a1) kB_Ref_isZero wt_635 ⟨rfl, rfl, Nat.le_of_ble_eq_true rfl, Nat.le_of_ble_eq_true rfl⟩ rfl hl.1 rfl (Nat.le_of_ble_eq_true rfl) d_Ref_product_46 ⟨Nat.zero_le _, Nat.zero_le _⟩ (fun H locs hP hS => ?_)
      refine lv_if_eq (tgt := 59) hx hb d_Ref_product_49 (by decide) (fun c_4 => ?_) (fun c_4 => ?_)
      · refine lv_aload_n hx hb d_Ref_product_59 rfl (lv_at hl 1 rfl) ?_
        refine lv_iload hx hb d_Ref_product_60 (lv_at hl 0 rfl) ?_
        refine rv_l (As := [.int (if (q_Ref_isMinus wi a0) = (q_Ref_isMinus wi a1) then (0 : Int32) else (1 : Int32))]) (rest := []) hq hA hP hS (c_Ref_infinite l A ad D cB cJ o r hne hA cd la lo hi re wi fr bi mi am we f (if (q_Ref_isMinus wi a0) = (q_Ref_isMinus wi a1) then (0 : Int32) else (1 : Int32))) kB_Ref_infinite wt_574 ⟨rfl, rfl, Nat.le_of_ble_eq_true rfl, Nat.le_of_ble_eq_true rfl⟩ rfl hl.1 rfl (Nat.le_of_ble_eq_true rfl) d_Ref_product_62 ⟨Nat.zero_le _, Nat.zero_le _⟩ (fun H locs hP hS => ?_)
        exact qr_l hq hr hk hP hS ⟨congrArg (fun z => some (Value.long z)) (by unfold q_Ref_product; exact (((if_neg c_2).trans ((if_pos c_3).trans ((if_pos c_4).trans rfl)))).symm), _, _, _, _, _, _, _, _, _, _, rfl, hre, hf, hI⟩ d_Ref_product_65
      · refine lv_aload_n hx hb d_Ref_product_52 rfl (lv_at hl 1 rfl) ?_
        refine rv_l (As := []) (rest := []) hq hA hP hS (c_Ref_noNumber l A ad D cB cJ o r hne hA cd la lo hi re wi fr bi mi am we f ) kB_Ref_noNumber wt_639 ⟨rfl, rfl, Nat.le_of_ble_eq_true rfl, Nat.le_of_ble_eq_true rfl⟩ rfl hl.1 rfl (Nat.le_of_ble_eq_true rfl) d_Ref_product_53 ⟨Nat.zero_le _, Nat.zero_le _⟩ (fun H locs hP hS => ?_)
        refine lv_goto (tgt := 65) hx hb d_Ref_product_56 (by decide) ?_
        exact qr_l hq hr hk hP hS ⟨congrArg (fun z => some (Value.long z)) (by unfold q_Ref_product; exact (((if_neg c_2).trans ((if_pos c_3).trans ((if_neg c_4).trans rfl)))).symm), _, _, _, _, _, _, _, _, _, _, rfl, hre, hf, hI⟩ d_Ref_product_65
  · refine lv_aload_n hx hb d_Ref_product_28 rfl (lv_at hl 1 rfl) ?_
    refine lv_lload_n hx hb d_Ref_product_29 rfl (lv_at hl 3 rfl) ?_
    refine rv_i (As := [.long a1]) (rest := []) hq hA hP hS (c_Ref_isInfinite l A ad D cB cJ o r hne hA cd la lo hi re wi fr bi mi am we f a1) kB_Ref_isInfinite wt_583 ⟨rfl, rfl, Nat.le_of_ble_eq_true rfl, Nat.le_of_ble_eq_true rfl⟩ rfl hl.1 rfl (Nat.le_of_ble_eq_true rfl) d_Ref_product_30 ⟨Nat.zero_le _, Nat.zero_le _⟩ (fun H locs hP hS => ?_)
    refine lv_if_eq (tgt := 66) hx hb d_Ref_product_33 (by decide) (fun c_5 => ?_) (fun c_5 => ?_)
    · refine lv_aload_n hx hb d_Ref_product_66 rfl (lv_at hl 1 rfl) ?_
      refine lv_lload_n hx hb d_Ref_product_67 rfl (lv_at hl 2 rfl) ?_
      refine rv_i (As := [.long a0]) (rest := []) hq hA hP hS (c_Ref_isZero l A ad D cB cJ o r hne hA cd la lo hi re wi fr bi mi am we f a0) kB_Ref_isZero wt_635 ⟨rfl, rfl, Nat.le_of_ble_eq_true rfl, Nat.le_of_ble_eq_true rfl⟩ rfl hl.1 rfl (Nat.le_of_ble_eq_true rfl) d_Ref_product_68 ⟨Nat.zero_le _, Nat.zero_le _⟩ (fun H locs hP hS => ?_)
      refine lv_if_ne (tgt := 82) hx hb d_Ref_product_71 (by decide) (fun c_6 => ?_) (fun c_6 => ?_)
      · refine lv_aload_n hx hb d_Ref_product_82 rfl (lv_at hl 1 rfl) ?_
        refine lv_lconst (v := (0 : Int64)) hx hb d_Ref_product_83 (by decide) ?_
        refine lv_iload hx hb d_Ref_product_84 (lv_at hl 0 rfl) ?_
        refine rv_l (As := [.long (0 : Int64), .int (if (q_Ref_isMinus wi a0) = (q_Ref_isMinus wi a1) then (0 : Int32) else (1 : Int32))]) (rest := []) hq hA hP hS (c_Ref_signed l A ad D cB cJ o r hne hA cd la lo hi re wi fr bi mi am we f (0 : Int64) (if (q_Ref_isMinus wi a0) = (q_Ref_isMinus wi a1) then (0 : Int32) else (1 : Int32))) kB_Ref_signed wt_579 ⟨rfl, rfl, Nat.le_of_ble_eq_true rfl, Nat.le_of_ble_eq_true rfl⟩ rfl hl.1 rfl (Nat.le_of_ble_eq_true rfl) d_Ref_product_86 ⟨Nat.zero_le _, Nat.zero_le _⟩ (fun H locs hP hS => ?_)
        exact qr_l hq hr hk hP hS ⟨congrArg (fun z => some (Value.long z)) (by unfold q_Ref_product; exact (((if_pos c_2).trans ((if_pos c_5).trans ((if_neg c_6).trans rfl)))).symm), _, _, _, _, _, _, _, _, _, _, rfl, hre, hf, hI⟩ d_Ref_product_89
      · refine lv_aload_n hx hb d_Ref_product_74 rfl (lv_at hl 1 rfl) ?_
        refine lv_lload_n hx hb d_Ref_product_75 rfl (lv_at hl 3 rfl) ?_
        refine rv_i (As := [.long a1]) (rest := []) hq hA hP hS (c_Ref_isZero l A ad D cB cJ o r hne hA cd la lo hi re wi fr bi mi am we f a1) kB_Ref_isZero wt_635 ⟨rfl, rfl, Nat.le_of_ble_eq_true rfl, Nat.le_of_ble_eq_true rfl⟩ rfl hl.1 rfl (Nat.le_of_ble_eq_true rfl) d_Ref_product_76 ⟨Nat.zero_le _, Nat.zero_le _⟩ (fun H locs hP hS => ?_)
        refine lv_if_eq (tgt := 90) hx hb d_Ref_product_79 (by decide) (fun c_7 => ?_) (fun c_7 => ?_)
        · refine lv_aload_n hx hb d_Ref_product_90 rfl (lv_at hl 1 rfl) ?_
          refine lv_lload_n hx hb d_Ref_product_91 rfl (lv_at hl 2 rfl) ?_
          refine rv_v (As := [.long a0]) (rest := []) hq hA hP hS (c_Ref_split l A ad D cB cJ o r hne hA cd la lo hi re wi fr bi mi am we f a0) kB_Ref_split wt_587 ⟨rfl, rfl, Nat.le_of_ble_eq_true rfl, Nat.le_of_ble_eq_true rfl⟩ rfl hl.1 rfl (Nat.le_of_ble_eq_true rfl) d_Ref_product_92 ⟨Nat.zero_le _, Nat.zero_le _⟩ (fun H locs hP hS => ?_)
          refine lv_aload_n hx hb d_Ref_product_95 rfl (lv_at hl 1 rfl) ?_
          refine rg_ 10 hq hP (by decide) wt_494 rfl rfl d_Ref_product_96 ?_
          refine lv_lstore (lv' := [(6, .long (q_Ref_split_am wi fr bi a0)), (5, .int (if (q_Ref_isMinus wi a0) = (q_Ref_isMinus wi a1) then (0 : Int32) else (1 : Int32))), (0, .ref o), (1, .long a0), (3, .long a1)]) hx hb d_Ref_product_99 hl (by decide) rfl (fun ls hl => ?_)
          refine lv_aload_n hx hb d_Ref_product_101 rfl (lv_at hl 2 rfl) ?_
          refine rg_ 11 hq hP (by decide) wt_495 rfl rfl d_Ref_product_102 ?_
          refine lv_istore (lv' := [(8, .int (q_Ref_split_we wi fr bi a0)), (6, .long (q_Ref_split_am wi fr bi a0)), (5, .int (if (q_Ref_isMinus wi a0) = (q_Ref_isMinus wi a1) then (0 : Int32) else (1 : Int32))), (0, .ref o), (1, .long a0), (3, .long a1)]) hx hb d_Ref_product_105 hl (by decide) rfl (fun ls hl => ?_)
          refine lv_aload_n hx hb d_Ref_product_107 rfl (lv_at hl 3 rfl) ?_
          refine lv_lload_n hx hb d_Ref_product_108 rfl (lv_at hl 5 rfl) ?_
          refine rv_v (As := [.long a1]) (rest := []) hq hA hP hS (c_Ref_split l A ad D cB cJ o r hne hA cd la lo hi re wi fr bi (q_Ref_split_mi wi fr bi a0) (q_Ref_split_am wi fr bi a0) (q_Ref_split_we wi fr bi a0) f a1) kB_Ref_split wt_587 ⟨rfl, rfl, Nat.le_of_ble_eq_true rfl, Nat.le_of_ble_eq_true rfl⟩ rfl hl.1 rfl (Nat.le_of_ble_eq_true rfl) d_Ref_product_109 ⟨Nat.zero_le _, Nat.zero_le _⟩ (fun H locs hP hS => ?_)
          refine lv_iload hx hb d_Ref_product_112 (lv_at hl 0 rfl) ?_
          refine lv_aload_n hx hb d_Ref_product_114 rfl (lv_at hl 3 rfl) ?_
          refine rg_ 11 hq hP (by decide) wt_495 rfl rfl d_Ref_product_115 ?_
          refine lv_iadd hx hb d_Ref_product_118 ?_
          refine lv_istore (lv' := [(8, .int ((q_Ref_split_we wi fr bi a0) + (q_Ref_split_we wi fr bi a1))), (6, .long (q_Ref_split_am wi fr bi a0)), (5, .int (if (q_Ref_isMinus wi a0) = (q_Ref_isMinus wi a1) then (0 : Int32) else (1 : Int32))), (0, .ref o), (1, .long a0), (3, .long a1)]) hx hb d_Ref_product_119 hl (by decide) rfl (fun ls hl => ?_)
          refine lv_aload_n hx hb d_Ref_product_121 rfl (lv_at hl 3 rfl) ?_
          refine rq_ (As := []) (rest := []) hq hA hP hS (c_Ref_clear l A ad D cB cJ o r hne hA cd la lo hi re wi fr bi (q_Ref_split_mi wi fr bi a1) (q_Ref_split_am wi fr bi a1) (q_Ref_split_we wi fr bi a1) f N hf hI) kB_Ref_clear wt_607 ⟨rfl, rfl, Nat.le_of_ble_eq_true rfl, Nat.le_of_ble_eq_true rfl⟩ rfl hl.1 rfl (Nat.le_of_ble_eq_true rfl) d_Ref_product_122 ⟨Nat.zero_le _, Nat.zero_le _⟩ (fun v9 fs9 f_8 H locs hk9 hP hS => ?_)
          obtain ⟨rfl, rfl, hf_8⟩ := hk9
          refine lv_iconst (v := (0 : Int32)) hx hb d_Ref_product_125 (by decide) ?_
          refine lv_istore (lv' := [(9, .int (0 : Int32)), (8, .int ((q_Ref_split_we wi fr bi a0) + (q_Ref_split_we wi fr bi a1))), (6, .long (q_Ref_split_am wi fr bi a0)), (5, .int (if (q_Ref_isMinus wi a0) = (q_Ref_isMinus wi a1) then (0 : Int32) else (1 : Int32))), (0, .ref o), (1, .long a0), (3, .long a1)]) hx hb d_Ref_product_126 hl (by decide) rfl (fun ls hl => ?_)
          have hl2 := lv_sub (l' := [(9, .int (0 : Int32)), (8, .int ((q_Ref_split_we wi fr bi a0) + (q_Ref_split_we wi fr bi a1))), (6, .long (q_Ref_split_am wi fr bi a0)), (5, .int (if (q_Ref_isMinus wi a0) = (q_Ref_isMinus wi a1) then (0 : Int32) else (1 : Int32))), (0, .ref o)]) hl [0, 1, 2, 3, 4] rfl
          rw [un_lN (q_Ref_split_am wi fr bi a0)] at hl2
          have hP2 := hP
          rw [un_lN (q_Ref_split_am wi fr bi a1)] at hP2
          exact lp_Ref_product hq hne hA hr hk cd la wi fr bi (q_Ref_split_mi wi fr bi a1) (q_Ref_split_we wi fr bi a1) F B hfm (un_ (q_Ref_split_am wi fr bi a0)) (un_ (q_Ref_split_am wi fr bi a1)) (w2_ (q_Ref_split_we wi fr bi a0) (q_Ref_split_we wi fr bi a1)) ((q_Ref_split_we wi fr bi a0) + (q_Ref_split_we wi fr bi a1)) (if (q_Ref_isMinus wi a0) = (q_Ref_isMinus wi a1) then (0 : Int32) else (1 : Int32)) (am_lt hfm _) (am_lt hfm _) (am_pos hfm c_6) (am_pos hfm c_7) (sp_P2 hfm a0 a1).1 (by have := (sp_P2 hfm a0 a1).2; omega) _ (by unfold q_Ref_product; exact ((if_pos c_2).trans ((if_pos c_5).trans ((if_pos c_6).trans ((if_pos c_7).trans rfl))))) 53 0 _ _ f_8 H locs ls rfl (by rw [Nat.pow_zero, Nat.mod_one, Nat.zero_mul, Nat.zero_mul]; exact hf_8) (by rw [Nat.pow_zero, Nat.mod_one, Nat.zero_mul, Nat.zero_mul]; exact ri_0) hl2 hP2 hS
        · refine lv_aload_n hx hb d_Ref_product_82 rfl (lv_at hl 1 rfl) ?_
          refine lv_lconst (v := (0 : Int64)) hx hb d_Ref_product_83 (by decide) ?_
          refine lv_iload hx hb d_Ref_product_84 (lv_at hl 0 rfl) ?_
          refine rv_l (As := [.long (0 : Int64), .int (if (q_Ref_isMinus wi a0) = (q_Ref_isMinus wi a1) then (0 : Int32) else (1 : Int32))]) (rest := []) hq hA hP hS (c_Ref_signed l A ad D cB cJ o r hne hA cd la lo hi re wi fr bi mi am we f (0 : Int64) (if (q_Ref_isMinus wi a0) = (q_Ref_isMinus wi a1) then (0 : Int32) else (1 : Int32))) kB_Ref_signed wt_579 ⟨rfl, rfl, Nat.le_of_ble_eq_true rfl, Nat.le_of_ble_eq_true rfl⟩ rfl hl.1 rfl (Nat.le_of_ble_eq_true rfl) d_Ref_product_86 ⟨Nat.zero_le _, Nat.zero_le _⟩ (fun H locs hP hS => ?_)
          exact qr_l hq hr hk hP hS ⟨congrArg (fun z => some (Value.long z)) (by unfold q_Ref_product; exact (((if_pos c_2).trans ((if_pos c_5).trans ((if_pos c_6).trans ((if_neg c_7).trans rfl))))).symm), _, _, _, _, _, _, _, _, _, _, rfl, hre, hf, hI⟩ d_Ref_product_89
    · refine lv_aload_n hx hb d_Ref_product_36 rfl (lv_at hl 1 rfl) ?_
      refine lv_lload_n hx hb d_Ref_product_37 rfl (lv_at hl 2 rfl) ?_
      refine rv_i (As := [.long a0]) (rest := []) hq hA hP hS (c_Ref_isZero l A ad D cB cJ o r hne hA cd la lo hi re wi fr bi mi am we f a0) kB_Ref_isZero wt_635 ⟨rfl, rfl, Nat.le_of_ble_eq_true rfl, Nat.le_of_ble_eq_true rfl⟩ rfl hl.1 rfl (Nat.le_of_ble_eq_true rfl) d_Ref_product_38 ⟨Nat.zero_le _, Nat.zero_le _⟩ (fun H locs hP hS => ?_)
      refine lv_if_ne (tgt := 52) hx hb d_Ref_product_41 (by decide) (fun c_9 => ?_) (fun c_9 => ?_)
      · refine lv_aload_n hx hb d_Ref_product_52 rfl (lv_at hl 1 rfl) ?_
        refine rv_l (As := []) (rest := []) hq hA hP hS (c_Ref_noNumber l A ad D cB cJ o r hne hA cd la lo hi re wi fr bi mi am we f ) kB_Ref_noNumber wt_639 ⟨rfl, rfl, Nat.le_of_ble_eq_true rfl, Nat.le_of_ble_eq_true rfl⟩ rfl hl.1 rfl (Nat.le_of_ble_eq_true rfl) d_Ref_product_53 ⟨Nat.zero_le _, Nat.zero_le _⟩ (fun H locs hP hS => ?_)
        refine lv_goto (tgt := 65) hx hb d_Ref_product_56 (by decide) ?_
        exact qr_l hq hr hk hP hS ⟨congrArg (fun z => some (Value.long z)) (by unfold q_Ref_product; exact (((if_pos c_2).trans ((if_neg c_5).trans ((if_neg c_9).trans rfl)))).symm), _, _, _, _, _, _, _, _, _, _, rfl, hre, hf, hI⟩ d_Ref_product_65
      · refine lv_aload_n hx hb d_Ref_product_44 rfl (lv_at hl 1 rfl) ?_
        refine lv_lload_n hx hb d_Ref_product_45 rfl (lv_at hl 3 rfl) ?_
        refine rv_i (As := [.long a1]) (rest := []) hq hA hP hS (c_Ref_isZero l A ad D cB cJ o r hne hA cd la lo hi re wi fr bi mi am we f a1) kB_Ref_isZero wt_635 ⟨rfl, rfl, Nat.le_of_ble_eq_true rfl, Nat.le_of_ble_eq_true rfl⟩ rfl hl.1 rfl (Nat.le_of_ble_eq_true rfl) d_Ref_product_46 ⟨Nat.zero_le _, Nat.zero_le _⟩ (fun H locs hP hS => ?_)
        refine lv_if_eq (tgt := 59) hx hb d_Ref_product_49 (by decide) (fun c_10 => ?_) (fun c_10 => ?_)
        · refine lv_aload_n hx hb d_Ref_product_59 rfl (lv_at hl 1 rfl) ?_
          refine lv_iload hx hb d_Ref_product_60 (lv_at hl 0 rfl) ?_
          refine rv_l (As := [.int (if (q_Ref_isMinus wi a0) = (q_Ref_isMinus wi a1) then (0 : Int32) else (1 : Int32))]) (rest := []) hq hA hP hS (c_Ref_infinite l A ad D cB cJ o r hne hA cd la lo hi re wi fr bi mi am we f (if (q_Ref_isMinus wi a0) = (q_Ref_isMinus wi a1) then (0 : Int32) else (1 : Int32))) kB_Ref_infinite wt_574 ⟨rfl, rfl, Nat.le_of_ble_eq_true rfl, Nat.le_of_ble_eq_true rfl⟩ rfl hl.1 rfl (Nat.le_of_ble_eq_true rfl) d_Ref_product_62 ⟨Nat.zero_le _, Nat.zero_le _⟩ (fun H locs hP hS => ?_)
          exact qr_l hq hr hk hP hS ⟨congrArg (fun z => some (Value.long z)) (by unfold q_Ref_product; exact (((if_pos c_2).trans ((if_neg c_5).trans ((if_pos c_9).trans ((if_pos c_10).trans rfl))))).symm), _, _, _, _, _, _, _, _, _, _, rfl, hre, hf, hI⟩ d_Ref_product_65
        · refine lv_aload_n hx hb d_Ref_product_52 rfl (lv_at hl 1 rfl) ?_
          refine rv_l (As := []) (rest := []) hq hA hP hS (c_Ref_noNumber l A ad D cB cJ o r hne hA cd la lo hi re wi fr bi mi am we f ) kB_Ref_noNumber wt_639 ⟨rfl, rfl, Nat.le_of_ble_eq_true rfl, Nat.le_of_ble_eq_true rfl⟩ rfl hl.1 rfl (Nat.le_of_ble_eq_true rfl) d_Ref_product_53 ⟨Nat.zero_le _, Nat.zero_le _⟩ (fun H locs hP hS => ?_)
          refine lv_goto (tgt := 65) hx hb d_Ref_product_56 (by decide) ?_
          exact qr_l hq hr hk hP hS ⟨congrArg (fun z => some (Value.long z)) (by unfold q_Ref_product; exact (((if_pos c_2).trans ((if_neg c_5).trans ((if_pos c_9).trans ((if_neg c_10).trans rfl))))).symm), _, _, _, _, _, _, _, _, _, _, rfl, hre, hf, hI⟩ d_Ref_product_65
