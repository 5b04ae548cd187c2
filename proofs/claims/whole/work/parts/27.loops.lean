def lf_Floats_longDivision (a0 : Int64) (a1 : Int64) : Nat → Int64 → Int64 → Int64
  | 0, v4, v6 =>
    (q_Bits_marked v4 v6)
  | k + 1, v4, v6 =>
    if v6 < a1 then
      lf_Floats_longDivision a0 a1 k (shl_ v4 (1 : Int32)) (shl_ v6 (1 : Int32))
    else
      lf_Floats_longDivision a0 a1 k ((shl_ v4 (1 : Int32)) ||| (1 : Int64)) (shl_ (v6 - a1) (1 : Int32))
theorem kB_Floats_longDivision : SB y_Floats_longDivision b_Floats_longDivision 9 (some .long) 2 := ⟨wt_441, wt_440, wt_53, by decide +kernel⟩
set_option maxHeartbeats 4000000 in
set_option maxRecDepth 100000 in
theorem lp_Floats_longDivision {p : Program} {l : Launch} {e : Env} {s : State} {m : MethodId} {args : Array Value} {below : List Frame} {meth : Method} {c : Code} {A : Nat → Prop} {ad : Nat → Nat} (hq : FX p s m args c A ad b_Floats_longDivision 9 y_Floats_longDivision.cls) (hr : meth.sig.returnType = some .long) (hk : meth.locks = false) (a0 : Int64) (a1 : Int64) (w : Int64) :
    ∀ k : Nat, k ≤ 60 → ∀ (v4 : Int64) (v6 : Int64) (ls : Array Slot), lv_has ls 9 [(8, .int (nI (60 - k))), (4, .long v4), (6, .long v6), (0, .long a0), (2, .long a1)] → w = lf_Floats_longDivision a0 a1 k v4 v6 → W p l e ({ frames := 1, cells := 0, slots := 0, locals := 23 } : Room) s m args below meth c s.heap [] 0 0 (MQ below (vp_Sl (fun r => r = w)) args s 0 0 (fun _ => False)) (F0 m 9 ls []) := by
  have hx := hq.1
  have hb := hq.2.1
  have hts := hq.2.2.2.2.1
  intro k
  induction k with
  | zero =>
    intro _ v4 v6 ls hl hw
    refine lv_iload hx hb d_Floats_longDivision_9 (lv_at hl 0 rfl) ?_
    refine lv_bipush (v := (60 : Int32)) hx hb d_Floats_longDivision_11 (by decide) ?_
    refine lv_icmp_ge (tgt := 53) hx hb d_Floats_longDivision_13 (by decide) (fun _ => ?_) (fun c => absurd (by decide) c)
    refine lv_lload hx hb d_Floats_longDivision_53 (lv_at hl 1 rfl) ?_
    refine lv_lload hx hb d_Floats_longDivision_55 (lv_at hl 2 rfl) ?_
    refine sl_ (As := [.long v4, .long v6]) (rest := []) hq (c_Bits_marked l A ad v4 v6) kB_Bits_marked wt_415 ⟨rfl, rfl, Nat.le_of_ble_eq_true rfl, Nat.le_of_ble_eq_true rfl⟩ rfl hl.1 rfl (Nat.le_of_ble_eq_true rfl) d_Floats_longDivision_57 ⟨Nat.zero_le _, Nat.zero_le _⟩ ?_
    exact rl_ hx hb hr hk (by rw [hw, lf_Floats_longDivision]) d_Floats_longDivision_60
  | succ k ih =>
    intro hle v4 v6 ls hl hw
    refine lv_iload hx hb d_Floats_longDivision_9 (lv_at hl 0 rfl) ?_
    refine lv_bipush (v := (60 : Int32)) hx hb d_Floats_longDivision_11 (by decide) ?_
    refine lv_icmp_ge (tgt := 53) hx hb d_Floats_longDivision_13 (by decide) (fun c => absurd c (nI_ge (show 60 - (k + 1) < 60 by omega) (by decide))) (fun _ => ?_)
    refine lv_lload hx hb d_Floats_longDivision_16 (lv_at hl 1 rfl) ?_
    refine lv_iconst (v := (1 : Int32)) hx hb d_Floats_longDivision_18 (by decide) ?_
    refine lv_lshl (v := (shl_ v4 (1 : Int32))) hx hb d_Floats_longDivision_19 rfl ?_
    refine lv_lstore (lv' := [(4, .long (shl_ v4 (1 : Int32))), (8, .int (nI (60 - (k + 1)))), (6, .long v6), (0, .long a0), (2, .long a1)]) hx hb d_Floats_longDivision_20 hl (by decide) rfl (fun ls hl => ?_)
    refine lv_lload hx hb d_Floats_longDivision_22 (lv_at hl 2 rfl) ?_
    refine lv_lload_n hx hb d_Floats_longDivision_24 rfl (lv_at hl 4 rfl) ?_
    refine W.lcmp hx hb d_Floats_longDivision_25 ?_
    refine lv_if_lt (tgt := 41) hx hb d_Floats_longDivision_26 (by decide) (fun c_1 => ?_) (fun c_1 => ?_)
    · rw [lg_cmp_lt] at c_1
      refine lv_lload hx hb d_Floats_longDivision_41 (lv_at hl 2 rfl) ?_
      refine lv_iconst (v := (1 : Int32)) hx hb d_Floats_longDivision_43 (by decide) ?_
      refine lv_lshl (v := (shl_ v6 (1 : Int32))) hx hb d_Floats_longDivision_44 rfl ?_
      refine lv_lstore (lv' := [(6, .long (shl_ v6 (1 : Int32))), (4, .long (shl_ v4 (1 : Int32))), (8, .int (nI (60 - (k + 1)))), (0, .long a0), (2, .long a1)]) hx hb d_Floats_longDivision_45 hl (by decide) rfl (fun ls hl => ?_)
      refine lv_iinc (v := nI (60 - k)) (lv' := [(8, .int (nI (60 - k))), (6, .long (shl_ v6 (1 : Int32))), (4, .long (shl_ v4 (1 : Int32))), (0, .long a0), (2, .long a1)]) hx hb d_Floats_longDivision_47 hl (k := 2) rfl (by show nI (60 - (k + 1)) + 1 = nI (60 - k); rw [nI_1]; congr 1; omega) (by decide) rfl (fun ls hl => ?_)
      refine lv_goto (tgt := 9) hx hb d_Floats_longDivision_50 (by decide) ?_
      exact ih (by omega) (shl_ v4 (1 : Int32)) (shl_ v6 (1 : Int32)) ls (lv_sub hl [0, 2, 1, 3, 4] rfl) (by rw [hw, lf_Floats_longDivision, if_pos c_1])
    · rw [lg_cmp_lt] at c_1
      refine lv_lload hx hb d_Floats_longDivision_29 (lv_at hl 2 rfl) ?_
      refine lv_lload_n hx hb d_Floats_longDivision_31 rfl (lv_at hl 4 rfl) ?_
      refine lv_lsub hx hb d_Floats_longDivision_32 ?_
      refine lv_lstore (lv' := [(6, .long (v6 - a1)), (4, .long (shl_ v4 (1 : Int32))), (8, .int (nI (60 - (k + 1)))), (0, .long a0), (2, .long a1)]) hx hb d_Floats_longDivision_33 hl (by decide) rfl (fun ls hl => ?_)
      refine lv_lload hx hb d_Floats_longDivision_35 (lv_at hl 1 rfl) ?_
      refine lv_lconst (v := (1 : Int64)) hx hb d_Floats_longDivision_37 (by decide) ?_
      refine lv_lor hx hb d_Floats_longDivision_38 ?_
      refine lv_lstore (lv' := [(4, .long ((shl_ v4 (1 : Int32)) ||| (1 : Int64))), (6, .long (v6 - a1)), (8, .int (nI (60 - (k + 1)))), (0, .long a0), (2, .long a1)]) hx hb d_Floats_longDivision_39 hl (by decide) rfl (fun ls hl => ?_)
      refine lv_lload hx hb d_Floats_longDivision_41 (lv_at hl 1 rfl) ?_
      refine lv_iconst (v := (1 : Int32)) hx hb d_Floats_longDivision_43 (by decide) ?_
      refine lv_lshl (v := (shl_ (v6 - a1) (1 : Int32))) hx hb d_Floats_longDivision_44 rfl ?_
      refine lv_lstore (lv' := [(6, .long (shl_ (v6 - a1) (1 : Int32))), (4, .long ((shl_ v4 (1 : Int32)) ||| (1 : Int64))), (8, .int (nI (60 - (k + 1)))), (0, .long a0), (2, .long a1)]) hx hb d_Floats_longDivision_45 hl (by decide) rfl (fun ls hl => ?_)
      refine lv_iinc (v := nI (60 - k)) (lv' := [(8, .int (nI (60 - k))), (6, .long (shl_ (v6 - a1) (1 : Int32))), (4, .long ((shl_ v4 (1 : Int32)) ||| (1 : Int64))), (0, .long a0), (2, .long a1)]) hx hb d_Floats_longDivision_47 hl (k := 2) rfl (by show nI (60 - (k + 1)) + 1 = nI (60 - k); rw [nI_1]; congr 1; omega) (by decide) rfl (fun ls hl => ?_)
      refine lv_goto (tgt := 9) hx hb d_Floats_longDivision_50 (by decide) ?_
      exact ih (by omega) ((shl_ v4 (1 : Int32)) ||| (1 : Int64)) (shl_ (v6 - a1) (1 : Int32)) ls (lv_sub hl [0, 2, 1, 3, 4] rfl) (by rw [hw, lf_Floats_longDivision, if_neg c_1])
def q_Floats_longDivision (a0 : Int64) (a1 : Int64) : Int64 := lf_Floats_longDivision a0 a1 60 (0 : Int64) a0
set_option maxHeartbeats 4000000 in
set_option maxRecDepth 100000 in
theorem c_Floats_longDivision (l : Launch) (A : Nat → Prop) (ad : Nat → Nat) (a0 : Int64) (a1 : Int64) : Met l y_Floats_longDivision (Cond.code y_Floats_longDivision b_Floats_longDivision 9 (some .long) :: BT) ({ frames := 1, cells := 0, slots := 0, locals := 23 } : Room) (PC A ad [.long a0, .long a1]) (vp_Sl (fun r => r = q_Floats_longDivision a0 a1)) 0 0 (fun _ => False) := by
  refine pm_ (by decide +kernel) (Nat.le_of_ble_eq_true rfl) ?_
  intro p e s m below meth c hq hr hk ls hl
  have hx := hq.1
  have hb := hq.2.1
  have hts := hq.2.2.2.2.1
  have hl : lv_has ls 9 [(0, .long a0), (2, .long a1)] := hl
  refine lv_lconst (v := (0 : Int64)) hx hb d_Floats_longDivision_0 (by decide) ?_
  refine lv_lstore (lv' := [(4, .long (0 : Int64)), (0, .long a0), (2, .long a1)]) hx hb d_Floats_longDivision_1 hl (by decide) rfl (fun ls hl => ?_)
  refine lv_lload_n hx hb d_Floats_longDivision_3 rfl (lv_at hl 1 rfl) ?_
  refine lv_lstore (lv' := [(6, .long a0), (4, .long (0 : Int64)), (0, .long a0), (2, .long a1)]) hx hb d_Floats_longDivision_4 hl (by decide) rfl (fun ls hl => ?_)
  refine lv_iconst (v := (0 : Int32)) hx hb d_Floats_longDivision_6 (by decide) ?_
  refine lv_istore (lv' := [(8, .int (0 : Int32)), (6, .long a0), (4, .long (0 : Int64)), (0, .long a0), (2, .long a1)]) hx hb d_Floats_longDivision_7 hl (by decide) rfl (fun ls hl => ?_)
  exact lp_Floats_longDivision hq hr hk a0 a1 _ 60 (by omega) (0 : Int64) a0 ls (lv_sub hl [0, 2, 1, 3, 4] rfl) rfl
def lf_Floats_longRoot (a0 : Int64) : Nat → Int64 → Int64 → Int64 → Int64
  | 0, v2, v4, v6 =>
    (q_Bits_marked v2 v4)
  | k + 1, v2, v4, v6 =>
    if ((shl_ v4 (2 : Int32)) ||| (ush_ v6 (62 : Int32))) < ((shl_ v2 (2 : Int32)) ||| (1 : Int64)) then
      lf_Floats_longRoot a0 k (shl_ v2 (1 : Int32)) ((shl_ v4 (2 : Int32)) ||| (ush_ v6 (62 : Int32))) (shl_ v6 (2 : Int32))
    else
      lf_Floats_longRoot a0 k ((shl_ v2 (1 : Int32)) ||| (1 : Int64)) (((shl_ v4 (2 : Int32)) ||| (ush_ v6 (62 : Int32))) - ((shl_ v2 (2 : Int32)) ||| (1 : Int64))) (shl_ v6 (2 : Int32))
theorem kB_Floats_longRoot : SB y_Floats_longRoot b_Floats_longRoot 11 (some .long) 1 := ⟨wt_414, wt_413, wt_53, by decide +kernel⟩
set_option maxHeartbeats 4000000 in
set_option maxRecDepth 100000 in
theorem lp_Floats_longRoot {p : Program} {l : Launch} {e : Env} {s : State} {m : MethodId} {args : Array Value} {below : List Frame} {meth : Method} {c : Code} {A : Nat → Prop} {ad : Nat → Nat} (hq : FX p s m args c A ad b_Floats_longRoot 11 y_Floats_longRoot.cls) (hr : meth.sig.returnType = some .long) (hk : meth.locks = false) (a0 : Int64) (w : Int64) :
    ∀ k : Nat, k ≤ 56 → ∀ (v2 : Int64) (v4 : Int64) (v6 : Int64) (ls : Array Slot), lv_has ls 11 [(8, .int (nI (56 - k))), (2, .long v2), (4, .long v4), (6, .long v6), (0, .long a0)] → w = lf_Floats_longRoot a0 k v2 v4 v6 → W p l e ({ frames := 1, cells := 0, slots := 0, locals := 23 } : Room) s m args below meth c s.heap [] 0 0 (MQ below (vp_Sl (fun r => r = w)) args s 0 0 (fun _ => False)) (F0 m 11 ls []) := by
  have hx := hq.1
  have hb := hq.2.1
  have hts := hq.2.2.2.2.1
  intro k
  induction k with
  | zero =>
    intro _ v2 v4 v6 ls hl hw
    refine lv_iload hx hb d_Floats_longRoot_11 (lv_at hl 0 rfl) ?_
    refine lv_bipush (v := (56 : Int32)) hx hb d_Floats_longRoot_13 (by decide) ?_
    refine lv_icmp_ge (tgt := 72) hx hb d_Floats_longRoot_15 (by decide) (fun _ => ?_) (fun c => absurd (by decide) c)
    refine lv_lload_n hx hb d_Floats_longRoot_72 rfl (lv_at hl 1 rfl) ?_
    refine lv_lload hx hb d_Floats_longRoot_73 (lv_at hl 2 rfl) ?_
    refine sl_ (As := [.long v2, .long v4]) (rest := []) hq (c_Bits_marked l A ad v2 v4) kB_Bits_marked wt_415 ⟨rfl, rfl, Nat.le_of_ble_eq_true rfl, Nat.le_of_ble_eq_true rfl⟩ rfl hl.1 rfl (Nat.le_of_ble_eq_true rfl) d_Floats_longRoot_75 ⟨Nat.zero_le _, Nat.zero_le _⟩ ?_
    exact rl_ hx hb hr hk (by rw [hw, lf_Floats_longRoot]) d_Floats_longRoot_78
  | succ k ih =>
    intro hle v2 v4 v6 ls hl hw
    refine lv_iload hx hb d_Floats_longRoot_11 (lv_at hl 0 rfl) ?_
    refine lv_bipush (v := (56 : Int32)) hx hb d_Floats_longRoot_13 (by decide) ?_
    refine lv_icmp_ge (tgt := 72) hx hb d_Floats_longRoot_15 (by decide) (fun c => absurd c (nI_ge (show 56 - (k + 1) < 56 by omega) (by decide))) (fun _ => ?_)
    refine lv_lload hx hb d_Floats_longRoot_18 (lv_at hl 2 rfl) ?_
    refine lv_iconst (v := (2 : Int32)) hx hb d_Floats_longRoot_20 (by decide) ?_
    refine lv_lshl (v := (shl_ v4 (2 : Int32))) hx hb d_Floats_longRoot_21 rfl ?_
    refine lv_lload hx hb d_Floats_longRoot_22 (lv_at hl 3 rfl) ?_
    refine lv_bipush (v := (62 : Int32)) hx hb d_Floats_longRoot_24 (by decide) ?_
    refine lv_lushr (v := (ush_ v6 (62 : Int32))) hx hb d_Floats_longRoot_26 rfl ?_
    refine lv_lor hx hb d_Floats_longRoot_27 ?_
    refine lv_lstore (lv' := [(4, .long ((shl_ v4 (2 : Int32)) ||| (ush_ v6 (62 : Int32)))), (8, .int (nI (56 - (k + 1)))), (2, .long v2), (6, .long v6), (0, .long a0)]) hx hb d_Floats_longRoot_28 hl (by decide) rfl (fun ls hl => ?_)
    refine lv_lload hx hb d_Floats_longRoot_30 (lv_at hl 3 rfl) ?_
    refine lv_iconst (v := (2 : Int32)) hx hb d_Floats_longRoot_32 (by decide) ?_
    refine lv_lshl (v := (shl_ v6 (2 : Int32))) hx hb d_Floats_longRoot_33 rfl ?_
    refine lv_lstore (lv' := [(6, .long (shl_ v6 (2 : Int32))), (4, .long ((shl_ v4 (2 : Int32)) ||| (ush_ v6 (62 : Int32)))), (8, .int (nI (56 - (k + 1)))), (2, .long v2), (0, .long a0)]) hx hb d_Floats_longRoot_34 hl (by decide) rfl (fun ls hl => ?_)
    refine lv_lload_n hx hb d_Floats_longRoot_36 rfl (lv_at hl 3 rfl) ?_
    refine lv_iconst (v := (2 : Int32)) hx hb d_Floats_longRoot_37 (by decide) ?_
    refine lv_lshl (v := (shl_ v2 (2 : Int32))) hx hb d_Floats_longRoot_38 rfl ?_
    refine lv_lconst (v := (1 : Int64)) hx hb d_Floats_longRoot_39 (by decide) ?_
    refine lv_lor hx hb d_Floats_longRoot_40 ?_
    refine lv_lstore (lv' := [(9, .long ((shl_ v2 (2 : Int32)) ||| (1 : Int64))), (6, .long (shl_ v6 (2 : Int32))), (4, .long ((shl_ v4 (2 : Int32)) ||| (ush_ v6 (62 : Int32)))), (8, .int (nI (56 - (k + 1)))), (2, .long v2), (0, .long a0)]) hx hb d_Floats_longRoot_41 hl (by decide) rfl (fun ls hl => ?_)
    refine lv_lload_n hx hb d_Floats_longRoot_43 rfl (lv_at hl 4 rfl) ?_
    refine lv_iconst (v := (1 : Int32)) hx hb d_Floats_longRoot_44 (by decide) ?_
    refine lv_lshl (v := (shl_ v2 (1 : Int32))) hx hb d_Floats_longRoot_45 rfl ?_
    refine lv_lstore_n (lv' := [(2, .long (shl_ v2 (1 : Int32))), (9, .long ((shl_ v2 (2 : Int32)) ||| (1 : Int64))), (6, .long (shl_ v6 (2 : Int32))), (4, .long ((shl_ v4 (2 : Int32)) ||| (ush_ v6 (62 : Int32)))), (8, .int (nI (56 - (k + 1)))), (0, .long a0)]) hx hb d_Floats_longRoot_46 rfl hl (by decide) rfl (fun ls hl => ?_)
    refine lv_lload hx hb d_Floats_longRoot_47 (lv_at hl 3 rfl) ?_
    refine lv_lload hx hb d_Floats_longRoot_49 (lv_at hl 1 rfl) ?_
    refine W.lcmp hx hb d_Floats_longRoot_51 ?_
    refine lv_if_lt (tgt := 66) hx hb d_Floats_longRoot_52 (by decide) (fun c_1 => ?_) (fun c_1 => ?_)
    · rw [lg_cmp_lt] at c_1
      refine lv_iinc (v := nI (56 - k)) (lv' := [(8, .int (nI (56 - k))), (2, .long (shl_ v2 (1 : Int32))), (9, .long ((shl_ v2 (2 : Int32)) ||| (1 : Int64))), (6, .long (shl_ v6 (2 : Int32))), (4, .long ((shl_ v4 (2 : Int32)) ||| (ush_ v6 (62 : Int32)))), (0, .long a0)]) hx hb d_Floats_longRoot_66 hl (k := 4) rfl (by show nI (56 - (k + 1)) + 1 = nI (56 - k); rw [nI_1]; congr 1; omega) (by decide) rfl (fun ls hl => ?_)
      refine lv_goto (tgt := 11) hx hb d_Floats_longRoot_69 (by decide) ?_
      exact ih (by omega) (shl_ v2 (1 : Int32)) ((shl_ v4 (2 : Int32)) ||| (ush_ v6 (62 : Int32))) (shl_ v6 (2 : Int32)) ls (lv_sub hl [0, 1, 4, 3, 5] rfl) (by rw [hw, lf_Floats_longRoot, if_pos c_1])
    · rw [lg_cmp_lt] at c_1
      refine lv_lload hx hb d_Floats_longRoot_55 (lv_at hl 3 rfl) ?_
      refine lv_lload hx hb d_Floats_longRoot_57 (lv_at hl 1 rfl) ?_
      refine lv_lsub hx hb d_Floats_longRoot_59 ?_
      refine lv_lstore (lv' := [(4, .long (((shl_ v4 (2 : Int32)) ||| (ush_ v6 (62 : Int32))) - ((shl_ v2 (2 : Int32)) ||| (1 : Int64)))), (2, .long (shl_ v2 (1 : Int32))), (9, .long ((shl_ v2 (2 : Int32)) ||| (1 : Int64))), (6, .long (shl_ v6 (2 : Int32))), (8, .int (nI (56 - (k + 1)))), (0, .long a0)]) hx hb d_Floats_longRoot_60 hl (by decide) rfl (fun ls hl => ?_)
      refine lv_lload_n hx hb d_Floats_longRoot_62 rfl (lv_at hl 1 rfl) ?_
      refine lv_lconst (v := (1 : Int64)) hx hb d_Floats_longRoot_63 (by decide) ?_
      refine lv_lor hx hb d_Floats_longRoot_64 ?_
      refine lv_lstore_n (lv' := [(2, .long ((shl_ v2 (1 : Int32)) ||| (1 : Int64))), (4, .long (((shl_ v4 (2 : Int32)) ||| (ush_ v6 (62 : Int32))) - ((shl_ v2 (2 : Int32)) ||| (1 : Int64)))), (9, .long ((shl_ v2 (2 : Int32)) ||| (1 : Int64))), (6, .long (shl_ v6 (2 : Int32))), (8, .int (nI (56 - (k + 1)))), (0, .long a0)]) hx hb d_Floats_longRoot_65 rfl hl (by decide) rfl (fun ls hl => ?_)
      refine lv_iinc (v := nI (56 - k)) (lv' := [(8, .int (nI (56 - k))), (2, .long ((shl_ v2 (1 : Int32)) ||| (1 : Int64))), (4, .long (((shl_ v4 (2 : Int32)) ||| (ush_ v6 (62 : Int32))) - ((shl_ v2 (2 : Int32)) ||| (1 : Int64)))), (9, .long ((shl_ v2 (2 : Int32)) ||| (1 : Int64))), (6, .long (shl_ v6 (2 : Int32))), (0, .long a0)]) hx hb d_Floats_longRoot_66 hl (k := 4) rfl (by show nI (56 - (k + 1)) + 1 = nI (56 - k); rw [nI_1]; congr 1; omega) (by decide) rfl (fun ls hl => ?_)
      refine lv_goto (tgt := 11) hx hb d_Floats_longRoot_69 (by decide) ?_
      exact ih (by omega) ((shl_ v2 (1 : Int32)) ||| (1 : Int64)) (((shl_ v4 (2 : Int32)) ||| (ush_ v6 (62 : Int32))) - ((shl_ v2 (2 : Int32)) ||| (1 : Int64))) (shl_ v6 (2 : Int32)) ls (lv_sub hl [0, 1, 2, 4, 5] rfl) (by rw [hw, lf_Floats_longRoot, if_neg c_1])
def q_Floats_longRoot (a0 : Int64) : Int64 := lf_Floats_longRoot a0 56 (0 : Int64) (0 : Int64) a0
set_option maxHeartbeats 4000000 in
set_option maxRecDepth 100000 in
theorem c_Floats_longRoot (l : Launch) (A : Nat → Prop) (ad : Nat → Nat) (a0 : Int64) : Met l y_Floats_longRoot (Cond.code y_Floats_longRoot b_Floats_longRoot 11 (some .long) :: BT) ({ frames := 1, cells := 0, slots := 0, locals := 23 } : Room) (PC A ad [.long a0]) (vp_Sl (fun r => r = q_Floats_longRoot a0)) 0 0 (fun _ => False) := by
  refine pm_ (by decide +kernel) (Nat.le_of_ble_eq_true rfl) ?_
  intro p e s m below meth c hq hr hk ls hl
  have hx := hq.1
  have hb := hq.2.1
  have hts := hq.2.2.2.2.1
  have hl : lv_has ls 11 [(0, .long a0)] := hl
  refine lv_lconst (v := (0 : Int64)) hx hb d_Floats_longRoot_0 (by decide) ?_
  refine lv_lstore_n (lv' := [(2, .long (0 : Int64)), (0, .long a0)]) hx hb d_Floats_longRoot_1 rfl hl (by decide) rfl (fun ls hl => ?_)
  refine lv_lconst (v := (0 : Int64)) hx hb d_Floats_longRoot_2 (by decide) ?_
  refine lv_lstore (lv' := [(4, .long (0 : Int64)), (2, .long (0 : Int64)), (0, .long a0)]) hx hb d_Floats_longRoot_3 hl (by decide) rfl (fun ls hl => ?_)
  refine lv_lload_n hx hb d_Floats_longRoot_5 rfl (lv_at hl 2 rfl) ?_
  refine lv_lstore (lv' := [(6, .long a0), (4, .long (0 : Int64)), (2, .long (0 : Int64)), (0, .long a0)]) hx hb d_Floats_longRoot_6 hl (by decide) rfl (fun ls hl => ?_)
  refine lv_iconst (v := (0 : Int32)) hx hb d_Floats_longRoot_8 (by decide) ?_
  refine lv_istore (lv' := [(8, .int (0 : Int32)), (6, .long a0), (4, .long (0 : Int64)), (2, .long (0 : Int64)), (0, .long a0)]) hx hb d_Floats_longRoot_9 hl (by decide) rfl (fun ls hl => ?_)
  exact lp_Floats_longRoot hq hr hk a0 _ 56 (by omega) (0 : Int64) (0 : Int64) a0 ls (lv_sub hl [0, 3, 2, 1, 4] rfl) rfl
def q_Floats_quotient (j0 : Nat) (a1 : Int64) (a2 : Int64) : Int64 :=
  if (q_Form_isZero j0 a1) = 0 then
    if (q_Form_isInfinite j0 a1) = 0 then
      if (q_Form_isInfinite j0 a1) = 0 then
        if (q_Form_isZero j0 a2) = 0 then
          if (q_Form_isInfinite j0 a2) = 0 then
            if (q_Form_isZero j0 a1) = 0 then
              (q_Form_rounded j0 (q_Form_sign j0 (a1 ^^^ a2)) (q_Floats_longDivision (q_Floats_raised j0 a1) (q_Floats_raised j0 a2)) (((q_Floats_raisedScale j0 a1) - (q_Floats_raisedScale j0 a2)) - (59 : Int32)))
            else
              (q_Form_sign j0 (a1 ^^^ a2))
          else
            (q_Form_sign j0 (a1 ^^^ a2))
        else
          ((q_Form_sign j0 (a1 ^^^ a2)) ||| (fm_i j0))
      else
        ((q_Form_sign j0 (a1 ^^^ a2)) ||| (fm_i j0))
    else
      if (q_Form_isInfinite j0 a2) = 0 then
        if (q_Form_isInfinite j0 a1) = 0 then
          if (q_Form_isZero j0 a2) = 0 then
            if (q_Form_isInfinite j0 a2) = 0 then
              if (q_Form_isZero j0 a1) = 0 then
                (q_Form_rounded j0 (q_Form_sign j0 (a1 ^^^ a2)) (q_Floats_longDivision (q_Floats_raised j0 a1) (q_Floats_raised j0 a2)) (((q_Floats_raisedScale j0 a1) - (q_Floats_raisedScale j0 a2)) - (59 : Int32)))
              else
                (q_Form_sign j0 (a1 ^^^ a2))
            else
              (q_Form_sign j0 (a1 ^^^ a2))
          else
            ((q_Form_sign j0 (a1 ^^^ a2)) ||| (fm_i j0))
        else
          ((q_Form_sign j0 (a1 ^^^ a2)) ||| (fm_i j0))
      else
        (fm_n j0)
  else
    if (q_Form_isZero j0 a2) = 0 then
      if (q_Form_isInfinite j0 a1) = 0 then
        if (q_Form_isInfinite j0 a1) = 0 then
          if (q_Form_isZero j0 a2) = 0 then
            if (q_Form_isInfinite j0 a2) = 0 then
              if (q_Form_isZero j0 a1) = 0 then
                (q_Form_rounded j0 (q_Form_sign j0 (a1 ^^^ a2)) (q_Floats_longDivision (q_Floats_raised j0 a1) (q_Floats_raised j0 a2)) (((q_Floats_raisedScale j0 a1) - (q_Floats_raisedScale j0 a2)) - (59 : Int32)))
              else
                (q_Form_sign j0 (a1 ^^^ a2))
            else
              (q_Form_sign j0 (a1 ^^^ a2))
          else
            ((q_Form_sign j0 (a1 ^^^ a2)) ||| (fm_i j0))
        else
          ((q_Form_sign j0 (a1 ^^^ a2)) ||| (fm_i j0))
      else
        if (q_Form_isInfinite j0 a2) = 0 then
          if (q_Form_isInfinite j0 a1) = 0 then
            if (q_Form_isZero j0 a2) = 0 then
              if (q_Form_isInfinite j0 a2) = 0 then
                if (q_Form_isZero j0 a1) = 0 then
                  (q_Form_rounded j0 (q_Form_sign j0 (a1 ^^^ a2)) (q_Floats_longDivision (q_Floats_raised j0 a1) (q_Floats_raised j0 a2)) (((q_Floats_raisedScale j0 a1) - (q_Floats_raisedScale j0 a2)) - (59 : Int32)))
                else
                  (q_Form_sign j0 (a1 ^^^ a2))
              else
                (q_Form_sign j0 (a1 ^^^ a2))
            else
              ((q_Form_sign j0 (a1 ^^^ a2)) ||| (fm_i j0))
          else
            ((q_Form_sign j0 (a1 ^^^ a2)) ||| (fm_i j0))
        else
          (fm_n j0)
    else
      if (q_Form_isInfinite j0 a1) = 0 then
        (fm_n j0)
      else
        if (q_Form_isInfinite j0 a2) = 0 then
          (fm_n j0)
        else
          (fm_n j0)
theorem kB_Floats_quotient : SB y_Floats_quotient b_Floats_quotient 10 (some .long) 3 := ⟨wt_438, wt_437, wt_53, by decide +kernel⟩
set_option maxHeartbeats 4000000 in
set_option maxRecDepth 100000 in
theorem c_Floats_quotient (l : Launch) (A : Nat → Prop) (ad : Nat → Nat) (j0 : Nat) (hj0 : j0 < 2) (a1 : Int64) (a2 : Int64) : Met l y_Floats_quotient (Cond.code y_Floats_quotient b_Floats_quotient 10 (some .long) :: BT) ({ frames := 3, cells := 0, slots := 0, locals := 78 }) (PC A ad [.ref (ad j0), .long a1, .long a2]) (vp_Sl (fun r => r = q_Floats_quotient j0 a1 a2)) 0 0 (fun _ => False) := by
  refine pm_ (by decide +kernel) (Nat.le_of_ble_eq_true rfl) ?_
  intro p e s m below meth c hq hr hk ls hl
  have hx := hq.1
  have hb := hq.2.1
  have hts := hq.2.2.2.2.1
  have hl : lv_has ls 10 [(0, .ref (ad j0)), (1, .long a1), (3, .long a2)] := hl
  refine lv_aload_n hx hb d_Floats_quotient_0 rfl (lv_at hl 0 rfl) ?_
  refine lv_lload_n hx hb d_Floats_quotient_1 rfl (lv_at hl 1 rfl) ?_
  refine lv_lload_n hx hb d_Floats_quotient_2 rfl (lv_at hl 2 rfl) ?_
  refine lv_lxor hx hb d_Floats_quotient_3 ?_
  refine vl_ (As := [.long (a1 ^^^ a2)]) (rest := []) hq hj0 (c_Form_sign l A ad j0 hj0 (a1 ^^^ a2)) kB_Form_sign wt_393 ⟨rfl, rfl, Nat.le_of_ble_eq_true rfl, Nat.le_of_ble_eq_true rfl⟩ rfl hl.1 rfl (Nat.le_of_ble_eq_true rfl) d_Floats_quotient_4 ⟨Nat.zero_le _, Nat.zero_le _⟩ ?_
  refine lv_lstore (lv' := [(5, .long (q_Form_sign j0 (a1 ^^^ a2))), (0, .ref (ad j0)), (1, .long a1), (3, .long a2)]) hx hb d_Floats_quotient_7 hl (by decide) rfl (fun ls hl => ?_)
  refine lv_aload_n hx hb d_Floats_quotient_9 rfl (lv_at hl 1 rfl) ?_
  refine lv_lload_n hx hb d_Floats_quotient_10 rfl (lv_at hl 2 rfl) ?_
  refine vi_ (As := [.long a1]) (rest := []) hq hj0 (c_Form_isZero l A ad j0 hj0 a1) kB_Form_isZero wt_401 ⟨rfl, rfl, Nat.le_of_ble_eq_true rfl, Nat.le_of_ble_eq_true rfl⟩ rfl hl.1 rfl (Nat.le_of_ble_eq_true rfl) d_Floats_quotient_11 ⟨Nat.zero_le _, Nat.zero_le _⟩ ?_
  refine lv_if_eq (tgt := 29) hx hb d_Floats_quotient_14 (by decide) (fun c_1 => ?_) (fun c_1 => ?_)
  · refine lv_iconst (v := (0 : Int32)) hx hb d_Floats_quotient_29 (by decide) ?_
    refine lv_istore (lv' := [(7, .int (0 : Int32)), (5, .long (q_Form_sign j0 (a1 ^^^ a2))), (0, .ref (ad j0)), (1, .long a1), (3, .long a2)]) hx hb d_Floats_quotient_30 hl (by decide) rfl (fun ls hl => ?_)
    refine lv_aload_n hx hb d_Floats_quotient_32 rfl (lv_at hl 2 rfl) ?_
    refine lv_lload_n hx hb d_Floats_quotient_33 rfl (lv_at hl 3 rfl) ?_
    refine vi_ (As := [.long a1]) (rest := []) hq hj0 (c_Form_isInfinite l A ad j0 hj0 a1) kB_Form_isInfinite wt_402 ⟨rfl, rfl, Nat.le_of_ble_eq_true rfl, Nat.le_of_ble_eq_true rfl⟩ rfl hl.1 rfl (Nat.le_of_ble_eq_true rfl) d_Floats_quotient_34 ⟨Nat.zero_le _, Nat.zero_le _⟩ ?_
    refine lv_if_eq (tgt := 52) hx hb d_Floats_quotient_37 (by decide) (fun c_2 => ?_) (fun c_2 => ?_)
    · refine lv_iconst (v := (0 : Int32)) hx hb d_Floats_quotient_52 (by decide) ?_
      refine lv_istore (lv' := [(8, .int (0 : Int32)), (7, .int (0 : Int32)), (5, .long (q_Form_sign j0 (a1 ^^^ a2))), (0, .ref (ad j0)), (1, .long a1), (3, .long a2)]) hx hb d_Floats_quotient_53 hl (by decide) rfl (fun ls hl => ?_)
      refine lv_iload hx hb d_Floats_quotient_55 (lv_at hl 1 rfl) ?_
      refine lv_if_ne (tgt := 65) hx hb d_Floats_quotient_57 (by decide) (fun c => absurd (by decide) c) (fun _ => ?_)
      refine lv_iload hx hb d_Floats_quotient_60 (lv_at hl 0 rfl) ?_
      refine lv_if_eq (tgt := 70) hx hb d_Floats_quotient_62 (by decide) (fun _ => ?_) (fun c => absurd (by decide) c)
      refine lv_aload_n hx hb d_Floats_quotient_70 rfl (lv_at hl 3 rfl) ?_
      refine lv_lload_n hx hb d_Floats_quotient_71 rfl (lv_at hl 4 rfl) ?_
      refine vi_ (As := [.long a1]) (rest := []) hq hj0 (c_Form_isInfinite l A ad j0 hj0 a1) kB_Form_isInfinite wt_402 ⟨rfl, rfl, Nat.le_of_ble_eq_true rfl, Nat.le_of_ble_eq_true rfl⟩ rfl hl.1 rfl (Nat.le_of_ble_eq_true rfl) d_Floats_quotient_72 ⟨Nat.zero_le _, Nat.zero_le _⟩ ?_
      refine lv_if_ne (tgt := 86) hx hb d_Floats_quotient_75 (by decide) (fun c_3 => ?_) (fun c_3 => ?_)
      · refine lv_lload hx hb d_Floats_quotient_86 (lv_at hl 2 rfl) ?_
        refine lv_aload_n hx hb d_Floats_quotient_88 rfl (lv_at hl 3 rfl) ?_
        refine gf_i hq hj0 wt_733 d_Floats_quotient_89 ?_
        refine lv_lor hx hb d_Floats_quotient_92 ?_
        exact rl_ hx hb hr hk (by rw [q_Floats_quotient, if_pos c_1, if_pos c_2, if_neg c_3]) d_Floats_quotient_93
      · refine lv_aload_n hx hb d_Floats_quotient_78 rfl (lv_at hl 3 rfl) ?_
        refine lv_lload_n hx hb d_Floats_quotient_79 rfl (lv_at hl 5 rfl) ?_
        refine vi_ (As := [.long a2]) (rest := []) hq hj0 (c_Form_isZero l A ad j0 hj0 a2) kB_Form_isZero wt_401 ⟨rfl, rfl, Nat.le_of_ble_eq_true rfl, Nat.le_of_ble_eq_true rfl⟩ rfl hl.1 rfl (Nat.le_of_ble_eq_true rfl) d_Floats_quotient_80 ⟨Nat.zero_le _, Nat.zero_le _⟩ ?_
        refine lv_if_eq (tgt := 94) hx hb d_Floats_quotient_83 (by decide) (fun c_4 => ?_) (fun c_4 => ?_)
        · refine lv_aload_n hx hb d_Floats_quotient_94 rfl (lv_at hl 3 rfl) ?_
          refine lv_lload_n hx hb d_Floats_quotient_95 rfl (lv_at hl 5 rfl) ?_
          refine vi_ (As := [.long a2]) (rest := []) hq hj0 (c_Form_isInfinite l A ad j0 hj0 a2) kB_Form_isInfinite wt_402 ⟨rfl, rfl, Nat.le_of_ble_eq_true rfl, Nat.le_of_ble_eq_true rfl⟩ rfl hl.1 rfl (Nat.le_of_ble_eq_true rfl) d_Floats_quotient_96 ⟨Nat.zero_le _, Nat.zero_le _⟩ ?_
          refine lv_if_ne (tgt := 110) hx hb d_Floats_quotient_99 (by decide) (fun c_5 => ?_) (fun c_5 => ?_)
          · refine lv_lload hx hb d_Floats_quotient_110 (lv_at hl 2 rfl) ?_
            exact rl_ hx hb hr hk (by rw [q_Floats_quotient, if_pos c_1, if_pos c_2, if_pos c_3, if_pos c_4, if_neg c_5]) d_Floats_quotient_112
          · refine lv_aload_n hx hb d_Floats_quotient_102 rfl (lv_at hl 3 rfl) ?_
            refine lv_lload_n hx hb d_Floats_quotient_103 rfl (lv_at hl 4 rfl) ?_
            refine vi_ (As := [.long a1]) (rest := []) hq hj0 (c_Form_isZero l A ad j0 hj0 a1) kB_Form_isZero wt_401 ⟨rfl, rfl, Nat.le_of_ble_eq_true rfl, Nat.le_of_ble_eq_true rfl⟩ rfl hl.1 rfl (Nat.le_of_ble_eq_true rfl) d_Floats_quotient_104 ⟨Nat.zero_le _, Nat.zero_le _⟩ ?_
            refine lv_if_eq (tgt := 113) hx hb d_Floats_quotient_107 (by decide) (fun c_6 => ?_) (fun c_6 => ?_)
            · refine lv_aload_n hx hb d_Floats_quotient_113 rfl (lv_at hl 3 rfl) ?_
              refine lv_lload_n hx hb d_Floats_quotient_114 rfl (lv_at hl 4 rfl) ?_
              refine si_ (As := [.ref (ad j0), .long a1]) (rest := []) hq (c_Floats_raisedScale l A ad j0 hj0 a1) kB_Floats_raisedScale wt_403 ⟨rfl, rfl, Nat.le_of_ble_eq_true rfl, Nat.le_of_ble_eq_true rfl⟩ rfl hl.1 rfl (Nat.le_of_ble_eq_true rfl) d_Floats_quotient_115 ⟨Nat.zero_le _, Nat.zero_le _⟩ ?_
              refine lv_aload_n hx hb d_Floats_quotient_118 rfl (lv_at hl 3 rfl) ?_
              refine lv_lload_n hx hb d_Floats_quotient_119 rfl (lv_at hl 5 rfl) ?_
              refine si_ (As := [.ref (ad j0), .long a2]) (rest := [.int (q_Floats_raisedScale j0 a1)]) hq (c_Floats_raisedScale l A ad j0 hj0 a2) kB_Floats_raisedScale wt_403 ⟨rfl, rfl, Nat.le_of_ble_eq_true rfl, Nat.le_of_ble_eq_true rfl⟩ rfl hl.1 rfl (Nat.le_of_ble_eq_true rfl) d_Floats_quotient_120 ⟨Nat.zero_le _, Nat.zero_le _⟩ ?_
              refine lv_isub hx hb d_Floats_quotient_123 ?_
              refine lv_bipush (v := (59 : Int32)) hx hb d_Floats_quotient_124 (by decide) ?_
              refine lv_isub hx hb d_Floats_quotient_126 ?_
              refine lv_istore (lv' := [(9, .int (((q_Floats_raisedScale j0 a1) - (q_Floats_raisedScale j0 a2)) - (59 : Int32))), (8, .int (0 : Int32)), (7, .int (0 : Int32)), (5, .long (q_Form_sign j0 (a1 ^^^ a2))), (0, .ref (ad j0)), (1, .long a1), (3, .long a2)]) hx hb d_Floats_quotient_127 hl (by decide) rfl (fun ls hl => ?_)
              refine lv_aload_n hx hb d_Floats_quotient_129 rfl (lv_at hl 4 rfl) ?_
              refine lv_lload hx hb d_Floats_quotient_130 (lv_at hl 3 rfl) ?_
              refine lv_aload_n hx hb d_Floats_quotient_132 rfl (lv_at hl 4 rfl) ?_
              refine lv_lload_n hx hb d_Floats_quotient_133 rfl (lv_at hl 5 rfl) ?_
              refine sl_ (As := [.ref (ad j0), .long a1]) (rest := [.long (q_Form_sign j0 (a1 ^^^ a2)), .ref (ad j0)]) hq (c_Floats_raised l A ad j0 hj0 a1) kB_Floats_raised wt_409 ⟨rfl, rfl, Nat.le_of_ble_eq_true rfl, Nat.le_of_ble_eq_true rfl⟩ rfl hl.1 rfl (Nat.le_of_ble_eq_true rfl) d_Floats_quotient_134 ⟨Nat.zero_le _, Nat.zero_le _⟩ ?_
              refine lv_aload_n hx hb d_Floats_quotient_137 rfl (lv_at hl 4 rfl) ?_
              refine lv_lload_n hx hb d_Floats_quotient_138 rfl (lv_at hl 6 rfl) ?_
              refine sl_ (As := [.ref (ad j0), .long a2]) (rest := [.long (q_Floats_raised j0 a1), .long (q_Form_sign j0 (a1 ^^^ a2)), .ref (ad j0)]) hq (c_Floats_raised l A ad j0 hj0 a2) kB_Floats_raised wt_409 ⟨rfl, rfl, Nat.le_of_ble_eq_true rfl, Nat.le_of_ble_eq_true rfl⟩ rfl hl.1 rfl (Nat.le_of_ble_eq_true rfl) d_Floats_quotient_139 ⟨Nat.zero_le _, Nat.zero_le _⟩ ?_
              refine sl_ (As := [.long (q_Floats_raised j0 a1), .long (q_Floats_raised j0 a2)]) (rest := [.long (q_Form_sign j0 (a1 ^^^ a2)), .ref (ad j0)]) hq (c_Floats_longDivision l A ad (q_Floats_raised j0 a1) (q_Floats_raised j0 a2)) kB_Floats_longDivision wt_439 ⟨rfl, rfl, Nat.le_of_ble_eq_true rfl, Nat.le_of_ble_eq_true rfl⟩ rfl hl.1 rfl (Nat.le_of_ble_eq_true rfl) d_Floats_quotient_142 ⟨Nat.zero_le _, Nat.zero_le _⟩ ?_
              refine lv_iload hx hb d_Floats_quotient_145 (lv_at hl 0 rfl) ?_
              refine vl_ (As := [.long (q_Form_sign j0 (a1 ^^^ a2)), .long (q_Floats_longDivision (q_Floats_raised j0 a1) (q_Floats_raised j0 a2)), .int (((q_Floats_raisedScale j0 a1) - (q_Floats_raisedScale j0 a2)) - (59 : Int32))]) (rest := []) hq hj0 (c_Form_rounded l A ad j0 hj0 (q_Form_sign j0 (a1 ^^^ a2)) (q_Floats_longDivision (q_Floats_raised j0 a1) (q_Floats_raised j0 a2)) (((q_Floats_raisedScale j0 a1) - (q_Floats_raisedScale j0 a2)) - (59 : Int32))) kB_Form_rounded wt_418 ⟨rfl, rfl, Nat.le_of_ble_eq_true rfl, Nat.le_of_ble_eq_true rfl⟩ rfl hl.1 rfl (Nat.le_of_ble_eq_true rfl) d_Floats_quotient_147 ⟨Nat.zero_le _, Nat.zero_le _⟩ ?_
              exact rl_ hx hb hr hk (by rw [q_Floats_quotient, if_pos c_1, if_pos c_2, if_pos c_3, if_pos c_4, if_pos c_5, if_pos c_6]) d_Floats_quotient_150
            · refine lv_lload hx hb d_Floats_quotient_110 (lv_at hl 2 rfl) ?_
              exact rl_ hx hb hr hk (by rw [q_Floats_quotient, if_pos c_1, if_pos c_2, if_pos c_3, if_pos c_4, if_pos c_5, if_neg c_6]) d_Floats_quotient_112
        · refine lv_lload hx hb d_Floats_quotient_86 (lv_at hl 2 rfl) ?_
          refine lv_aload_n hx hb d_Floats_quotient_88 rfl (lv_at hl 3 rfl) ?_
          refine gf_i hq hj0 wt_733 d_Floats_quotient_89 ?_
          refine lv_lor hx hb d_Floats_quotient_92 ?_
          exact rl_ hx hb hr hk (by rw [q_Floats_quotient, if_pos c_1, if_pos c_2, if_pos c_3, if_neg c_4]) d_Floats_quotient_93
    · refine lv_aload_n hx hb d_Floats_quotient_40 rfl (lv_at hl 2 rfl) ?_
      refine lv_lload_n hx hb d_Floats_quotient_41 rfl (lv_at hl 4 rfl) ?_
      refine vi_ (As := [.long a2]) (rest := []) hq hj0 (c_Form_isInfinite l A ad j0 hj0 a2) kB_Form_isInfinite wt_402 ⟨rfl, rfl, Nat.le_of_ble_eq_true rfl, Nat.le_of_ble_eq_true rfl⟩ rfl hl.1 rfl (Nat.le_of_ble_eq_true rfl) d_Floats_quotient_42 ⟨Nat.zero_le _, Nat.zero_le _⟩ ?_
      refine lv_if_eq (tgt := 52) hx hb d_Floats_quotient_45 (by decide) (fun c_7 => ?_) (fun c_7 => ?_)
      · refine lv_iconst (v := (0 : Int32)) hx hb d_Floats_quotient_52 (by decide) ?_
        refine lv_istore (lv' := [(8, .int (0 : Int32)), (7, .int (0 : Int32)), (5, .long (q_Form_sign j0 (a1 ^^^ a2))), (0, .ref (ad j0)), (1, .long a1), (3, .long a2)]) hx hb d_Floats_quotient_53 hl (by decide) rfl (fun ls hl => ?_)
        refine lv_iload hx hb d_Floats_quotient_55 (lv_at hl 1 rfl) ?_
        refine lv_if_ne (tgt := 65) hx hb d_Floats_quotient_57 (by decide) (fun c => absurd (by decide) c) (fun _ => ?_)
        refine lv_iload hx hb d_Floats_quotient_60 (lv_at hl 0 rfl) ?_
        refine lv_if_eq (tgt := 70) hx hb d_Floats_quotient_62 (by decide) (fun _ => ?_) (fun c => absurd (by decide) c)
        refine lv_aload_n hx hb d_Floats_quotient_70 rfl (lv_at hl 3 rfl) ?_
        refine lv_lload_n hx hb d_Floats_quotient_71 rfl (lv_at hl 4 rfl) ?_
        refine vi_ (As := [.long a1]) (rest := []) hq hj0 (c_Form_isInfinite l A ad j0 hj0 a1) kB_Form_isInfinite wt_402 ⟨rfl, rfl, Nat.le_of_ble_eq_true rfl, Nat.le_of_ble_eq_true rfl⟩ rfl hl.1 rfl (Nat.le_of_ble_eq_true rfl) d_Floats_quotient_72 ⟨Nat.zero_le _, Nat.zero_le _⟩ ?_
        refine lv_if_ne (tgt := 86) hx hb d_Floats_quotient_75 (by decide) (fun c_8 => ?_) (fun c_8 => ?_)
        · refine lv_lload hx hb d_Floats_quotient_86 (lv_at hl 2 rfl) ?_
          refine lv_aload_n hx hb d_Floats_quotient_88 rfl (lv_at hl 3 rfl) ?_
          refine gf_i hq hj0 wt_733 d_Floats_quotient_89 ?_
          refine lv_lor hx hb d_Floats_quotient_92 ?_
          exact rl_ hx hb hr hk (by rw [q_Floats_quotient, if_pos c_1, if_neg c_2, if_pos c_7, if_neg c_8]) d_Floats_quotient_93
        · refine lv_aload_n hx hb d_Floats_quotient_78 rfl (lv_at hl 3 rfl) ?_
          refine lv_lload_n hx hb d_Floats_quotient_79 rfl (lv_at hl 5 rfl) ?_
          refine vi_ (As := [.long a2]) (rest := []) hq hj0 (c_Form_isZero l A ad j0 hj0 a2) kB_Form_isZero wt_401 ⟨rfl, rfl, Nat.le_of_ble_eq_true rfl, Nat.le_of_ble_eq_true rfl⟩ rfl hl.1 rfl (Nat.le_of_ble_eq_true rfl) d_Floats_quotient_80 ⟨Nat.zero_le _, Nat.zero_le _⟩ ?_
          refine lv_if_eq (tgt := 94) hx hb d_Floats_quotient_83 (by decide) (fun c_9 => ?_) (fun c_9 => ?_)
          · refine lv_aload_n hx hb d_Floats_quotient_94 rfl (lv_at hl 3 rfl) ?_
            refine lv_lload_n hx hb d_Floats_quotient_95 rfl (lv_at hl 5 rfl) ?_
            refine vi_ (As := [.long a2]) (rest := []) hq hj0 (c_Form_isInfinite l A ad j0 hj0 a2) kB_Form_isInfinite wt_402 ⟨rfl, rfl, Nat.le_of_ble_eq_true rfl, Nat.le_of_ble_eq_true rfl⟩ rfl hl.1 rfl (Nat.le_of_ble_eq_true rfl) d_Floats_quotient_96 ⟨Nat.zero_le _, Nat.zero_le _⟩ ?_
            refine lv_if_ne (tgt := 110) hx hb d_Floats_quotient_99 (by decide) (fun c_10 => ?_) (fun c_10 => ?_)
            · refine lv_lload hx hb d_Floats_quotient_110 (lv_at hl 2 rfl) ?_
              exact rl_ hx hb hr hk (by rw [q_Floats_quotient, if_pos c_1, if_neg c_2, if_pos c_7, if_pos c_8, if_pos c_9, if_neg c_10]) d_Floats_quotient_112
            · refine lv_aload_n hx hb d_Floats_quotient_102 rfl (lv_at hl 3 rfl) ?_
              refine lv_lload_n hx hb d_Floats_quotient_103 rfl (lv_at hl 4 rfl) ?_
              refine vi_ (As := [.long a1]) (rest := []) hq hj0 (c_Form_isZero l A ad j0 hj0 a1) kB_Form_isZero wt_401 ⟨rfl, rfl, Nat.le_of_ble_eq_true rfl, Nat.le_of_ble_eq_true rfl⟩ rfl hl.1 rfl (Nat.le_of_ble_eq_true rfl) d_Floats_quotient_104 ⟨Nat.zero_le _, Nat.zero_le _⟩ ?_
              refine lv_if_eq (tgt := 113) hx hb d_Floats_quotient_107 (by decide) (fun c_11 => ?_) (fun c_11 => ?_)
              · refine lv_aload_n hx hb d_Floats_quotient_113 rfl (lv_at hl 3 rfl) ?_
                refine lv_lload_n hx hb d_Floats_quotient_114 rfl (lv_at hl 4 rfl) ?_
                refine si_ (As := [.ref (ad j0), .long a1]) (rest := []) hq (c_Floats_raisedScale l A ad j0 hj0 a1) kB_Floats_raisedScale wt_403 ⟨rfl, rfl, Nat.le_of_ble_eq_true rfl, Nat.le_of_ble_eq_true rfl⟩ rfl hl.1 rfl (Nat.le_of_ble_eq_true rfl) d_Floats_quotient_115 ⟨Nat.zero_le _, Nat.zero_le _⟩ ?_
                refine lv_aload_n hx hb d_Floats_quotient_118 rfl (lv_at hl 3 rfl) ?_
                refine lv_lload_n hx hb d_Floats_quotient_119 rfl (lv_at hl 5 rfl) ?_
                refine si_ (As := [.ref (ad j0), .long a2]) (rest := [.int (q_Floats_raisedScale j0 a1)]) hq (c_Floats_raisedScale l A ad j0 hj0 a2) kB_Floats_raisedScale wt_403 ⟨rfl, rfl, Nat.le_of_ble_eq_true rfl, Nat.le_of_ble_eq_true rfl⟩ rfl hl.1 rfl (Nat.le_of_ble_eq_true rfl) d_Floats_quotient_120 ⟨Nat.zero_le _, Nat.zero_le _⟩ ?_
                refine lv_isub hx hb d_Floats_quotient_123 ?_
                refine lv_bipush (v := (59 : Int32)) hx hb d_Floats_quotient_124 (by decide) ?_
                refine lv_isub hx hb d_Floats_quotient_126 ?_
                refine lv_istore (lv' := [(9, .int (((q_Floats_raisedScale j0 a1) - (q_Floats_raisedScale j0 a2)) - (59 : Int32))), (8, .int (0 : Int32)), (7, .int (0 : Int32)), (5, .long (q_Form_sign j0 (a1 ^^^ a2))), (0, .ref (ad j0)), (1, .long a1), (3, .long a2)]) hx hb d_Floats_quotient_127 hl (by decide) rfl (fun ls hl => ?_)
                refine lv_aload_n hx hb d_Floats_quotient_129 rfl (lv_at hl 4 rfl) ?_
                refine lv_lload hx hb d_Floats_quotient_130 (lv_at hl 3 rfl) ?_
                refine lv_aload_n hx hb d_Floats_quotient_132 rfl (lv_at hl 4 rfl) ?_
                refine lv_lload_n hx hb d_Floats_quotient_133 rfl (lv_at hl 5 rfl) ?_
                refine sl_ (As := [.ref (ad j0), .long a1]) (rest := [.long (q_Form_sign j0 (a1 ^^^ a2)), .ref (ad j0)]) hq (c_Floats_raised l A ad j0 hj0 a1) kB_Floats_raised wt_409 ⟨rfl, rfl, Nat.le_of_ble_eq_true rfl, Nat.le_of_ble_eq_true rfl⟩ rfl hl.1 rfl (Nat.le_of_ble_eq_true rfl) d_Floats_quotient_134 ⟨Nat.zero_le _, Nat.zero_le _⟩ ?_
                refine lv_aload_n hx hb d_Floats_quotient_137 rfl (lv_at hl 4 rfl) ?_
                refine lv_lload_n hx hb d_Floats_quotient_138 rfl (lv_at hl 6 rfl) ?_
                refine sl_ (As := [.ref (ad j0), .long a2]) (rest := [.long (q_Floats_raised j0 a1), .long (q_Form_sign j0 (a1 ^^^ a2)), .ref (ad j0)]) hq (c_Floats_raised l A ad j0 hj0 a2) kB_Floats_raised wt_409 ⟨rfl, rfl, Nat.le_of_ble_eq_true rfl, Nat.le_of_ble_eq_true rfl⟩ rfl hl.1 rfl (Nat.le_of_ble_eq_true rfl) d_Floats_quotient_139 ⟨Nat.zero_le _, Nat.zero_le _⟩ ?_
                refine sl_ (As := [.long (q_Floats_raised j0 a1), .long (q_Floats_raised j0 a2)]) (rest := [.long (q_Form_sign j0 (a1 ^^^ a2)), .ref (ad j0)]) hq (c_Floats_longDivision l A ad (q_Floats_raised j0 a1) (q_Floats_raised j0 a2)) kB_Floats_longDivision wt_439 ⟨rfl, rfl, Nat.le_of_ble_eq_true rfl, Nat.le_of_ble_eq_true rfl⟩ rfl hl.1 rfl (Nat.le_of_ble_eq_true rfl) d_Floats_quotient_142 ⟨Nat.zero_le _, Nat.zero_le _⟩ ?_
                refine lv_iload hx hb d_Floats_quotient_145 (lv_at hl 0 rfl) ?_
                refine vl_ (As := [.long (q_Form_sign j0 (a1 ^^^ a2)), .long (q_Floats_longDivision (q_Floats_raised j0 a1) (q_Floats_raised j0 a2)), .int (((q_Floats_raisedScale j0 a1) - (q_Floats_raisedScale j0 a2)) - (59 : Int32))]) (rest := []) hq hj0 (c_Form_rounded l A ad j0 hj0 (q_Form_sign j0 (a1 ^^^ a2)) (q_Floats_longDivision (q_Floats_raised j0 a1) (q_Floats_raised j0 a2)) (((q_Floats_raisedScale j0 a1) - (q_Floats_raisedScale j0 a2)) - (59 : Int32))) kB_Form_rounded wt_418 ⟨rfl, rfl, Nat.le_of_ble_eq_true rfl, Nat.le_of_ble_eq_true rfl⟩ rfl hl.1 rfl (Nat.le_of_ble_eq_true rfl) d_Floats_quotient_147 ⟨Nat.zero_le _, Nat.zero_le _⟩ ?_
                exact rl_ hx hb hr hk (by rw [q_Floats_quotient, if_pos c_1, if_neg c_2, if_pos c_7, if_pos c_8, if_pos c_9, if_pos c_10, if_pos c_11]) d_Floats_quotient_150
              · refine lv_lload hx hb d_Floats_quotient_110 (lv_at hl 2 rfl) ?_
                exact rl_ hx hb hr hk (by rw [q_Floats_quotient, if_pos c_1, if_neg c_2, if_pos c_7, if_pos c_8, if_pos c_9, if_pos c_10, if_neg c_11]) d_Floats_quotient_112
          · refine lv_lload hx hb d_Floats_quotient_86 (lv_at hl 2 rfl) ?_
            refine lv_aload_n hx hb d_Floats_quotient_88 rfl (lv_at hl 3 rfl) ?_
            refine gf_i hq hj0 wt_733 d_Floats_quotient_89 ?_
            refine lv_lor hx hb d_Floats_quotient_92 ?_
            exact rl_ hx hb hr hk (by rw [q_Floats_quotient, if_pos c_1, if_neg c_2, if_pos c_7, if_pos c_8, if_neg c_9]) d_Floats_quotient_93
      · refine lv_iconst (v := (1 : Int32)) hx hb d_Floats_quotient_48 (by decide) ?_
        refine lv_goto (tgt := 53) hx hb d_Floats_quotient_49 (by decide) ?_
        refine lv_istore (lv' := [(8, .int (1 : Int32)), (7, .int (0 : Int32)), (5, .long (q_Form_sign j0 (a1 ^^^ a2))), (0, .ref (ad j0)), (1, .long a1), (3, .long a2)]) hx hb d_Floats_quotient_53 hl (by decide) rfl (fun ls hl => ?_)
        refine lv_iload hx hb d_Floats_quotient_55 (lv_at hl 1 rfl) ?_
        refine lv_if_ne (tgt := 65) hx hb d_Floats_quotient_57 (by decide) (fun c => absurd (by decide) c) (fun _ => ?_)
        refine lv_iload hx hb d_Floats_quotient_60 (lv_at hl 0 rfl) ?_
        refine lv_if_eq (tgt := 70) hx hb d_Floats_quotient_62 (by decide) (fun c => absurd c (by decide)) (fun _ => ?_)
        refine lv_aload_n hx hb d_Floats_quotient_65 rfl (lv_at hl 3 rfl) ?_
        refine gf_n hq hj0 wt_732 d_Floats_quotient_66 ?_
        exact rl_ hx hb hr hk (by rw [q_Floats_quotient, if_pos c_1, if_neg c_2, if_neg c_7]) d_Floats_quotient_69
  · refine lv_aload_n hx hb d_Floats_quotient_17 rfl (lv_at hl 1 rfl) ?_
    refine lv_lload_n hx hb d_Floats_quotient_18 rfl (lv_at hl 3 rfl) ?_
    refine vi_ (As := [.long a2]) (rest := []) hq hj0 (c_Form_isZero l A ad j0 hj0 a2) kB_Form_isZero wt_401 ⟨rfl, rfl, Nat.le_of_ble_eq_true rfl, Nat.le_of_ble_eq_true rfl⟩ rfl hl.1 rfl (Nat.le_of_ble_eq_true rfl) d_Floats_quotient_19 ⟨Nat.zero_le _, Nat.zero_le _⟩ ?_
    refine lv_if_eq (tgt := 29) hx hb d_Floats_quotient_22 (by decide) (fun c_12 => ?_) (fun c_12 => ?_)
    · refine lv_iconst (v := (0 : Int32)) hx hb d_Floats_quotient_29 (by decide) ?_
      refine lv_istore (lv' := [(7, .int (0 : Int32)), (5, .long (q_Form_sign j0 (a1 ^^^ a2))), (0, .ref (ad j0)), (1, .long a1), (3, .long a2)]) hx hb d_Floats_quotient_30 hl (by decide) rfl (fun ls hl => ?_)
      refine lv_aload_n hx hb d_Floats_quotient_32 rfl (lv_at hl 2 rfl) ?_
      refine lv_lload_n hx hb d_Floats_quotient_33 rfl (lv_at hl 3 rfl) ?_
      refine vi_ (As := [.long a1]) (rest := []) hq hj0 (c_Form_isInfinite l A ad j0 hj0 a1) kB_Form_isInfinite wt_402 ⟨rfl, rfl, Nat.le_of_ble_eq_true rfl, Nat.le_of_ble_eq_true rfl⟩ rfl hl.1 rfl (Nat.le_of_ble_eq_true rfl) d_Floats_quotient_34 ⟨Nat.zero_le _, Nat.zero_le _⟩ ?_
      refine lv_if_eq (tgt := 52) hx hb d_Floats_quotient_37 (by decide) (fun c_13 => ?_) (fun c_13 => ?_)
      · refine lv_iconst (v := (0 : Int32)) hx hb d_Floats_quotient_52 (by decide) ?_
        refine lv_istore (lv' := [(8, .int (0 : Int32)), (7, .int (0 : Int32)), (5, .long (q_Form_sign j0 (a1 ^^^ a2))), (0, .ref (ad j0)), (1, .long a1), (3, .long a2)]) hx hb d_Floats_quotient_53 hl (by decide) rfl (fun ls hl => ?_)
        refine lv_iload hx hb d_Floats_quotient_55 (lv_at hl 1 rfl) ?_
        refine lv_if_ne (tgt := 65) hx hb d_Floats_quotient_57 (by decide) (fun c => absurd (by decide) c) (fun _ => ?_)
        refine lv_iload hx hb d_Floats_quotient_60 (lv_at hl 0 rfl) ?_
        refine lv_if_eq (tgt := 70) hx hb d_Floats_quotient_62 (by decide) (fun _ => ?_) (fun c => absurd (by decide) c)
        refine lv_aload_n hx hb d_Floats_quotient_70 rfl (lv_at hl 3 rfl) ?_
        refine lv_lload_n hx hb d_Floats_quotient_71 rfl (lv_at hl 4 rfl) ?_
        refine vi_ (As := [.long a1]) (rest := []) hq hj0 (c_Form_isInfinite l A ad j0 hj0 a1) kB_Form_isInfinite wt_402 ⟨rfl, rfl, Nat.le_of_ble_eq_true rfl, Nat.le_of_ble_eq_true rfl⟩ rfl hl.1 rfl (Nat.le_of_ble_eq_true rfl) d_Floats_quotient_72 ⟨Nat.zero_le _, Nat.zero_le _⟩ ?_
        refine lv_if_ne (tgt := 86) hx hb d_Floats_quotient_75 (by decide) (fun c_14 => ?_) (fun c_14 => ?_)
        · refine lv_lload hx hb d_Floats_quotient_86 (lv_at hl 2 rfl) ?_
          refine lv_aload_n hx hb d_Floats_quotient_88 rfl (lv_at hl 3 rfl) ?_
          refine gf_i hq hj0 wt_733 d_Floats_quotient_89 ?_
          refine lv_lor hx hb d_Floats_quotient_92 ?_
          exact rl_ hx hb hr hk (by rw [q_Floats_quotient, if_neg c_1, if_pos c_12, if_pos c_13, if_neg c_14]) d_Floats_quotient_93
        · refine lv_aload_n hx hb d_Floats_quotient_78 rfl (lv_at hl 3 rfl) ?_
          refine lv_lload_n hx hb d_Floats_quotient_79 rfl (lv_at hl 5 rfl) ?_
          refine vi_ (As := [.long a2]) (rest := []) hq hj0 (c_Form_isZero l A ad j0 hj0 a2) kB_Form_isZero wt_401 ⟨rfl, rfl, Nat.le_of_ble_eq_true rfl, Nat.le_of_ble_eq_true rfl⟩ rfl hl.1 rfl (Nat.le_of_ble_eq_true rfl) d_Floats_quotient_80 ⟨Nat.zero_le _, Nat.zero_le _⟩ ?_
          refine lv_if_eq (tgt := 94) hx hb d_Floats_quotient_83 (by decide) (fun c_15 => ?_) (fun c_15 => ?_)
          · refine lv_aload_n hx hb d_Floats_quotient_94 rfl (lv_at hl 3 rfl) ?_
            refine lv_lload_n hx hb d_Floats_quotient_95 rfl (lv_at hl 5 rfl) ?_
            refine vi_ (As := [.long a2]) (rest := []) hq hj0 (c_Form_isInfinite l A ad j0 hj0 a2) kB_Form_isInfinite wt_402 ⟨rfl, rfl, Nat.le_of_ble_eq_true rfl, Nat.le_of_ble_eq_true rfl⟩ rfl hl.1 rfl (Nat.le_of_ble_eq_true rfl) d_Floats_quotient_96 ⟨Nat.zero_le _, Nat.zero_le _⟩ ?_
            refine lv_if_ne (tgt := 110) hx hb d_Floats_quotient_99 (by decide) (fun c_16 => ?_) (fun c_16 => ?_)
            · refine lv_lload hx hb d_Floats_quotient_110 (lv_at hl 2 rfl) ?_
              exact rl_ hx hb hr hk (by rw [q_Floats_quotient, if_neg c_1, if_pos c_12, if_pos c_13, if_pos c_14, if_pos c_15, if_neg c_16]) d_Floats_quotient_112
            · refine lv_aload_n hx hb d_Floats_quotient_102 rfl (lv_at hl 3 rfl) ?_
              refine lv_lload_n hx hb d_Floats_quotient_103 rfl (lv_at hl 4 rfl) ?_
              refine vi_ (As := [.long a1]) (rest := []) hq hj0 (c_Form_isZero l A ad j0 hj0 a1) kB_Form_isZero wt_401 ⟨rfl, rfl, Nat.le_of_ble_eq_true rfl, Nat.le_of_ble_eq_true rfl⟩ rfl hl.1 rfl (Nat.le_of_ble_eq_true rfl) d_Floats_quotient_104 ⟨Nat.zero_le _, Nat.zero_le _⟩ ?_
              refine lv_if_eq (tgt := 113) hx hb d_Floats_quotient_107 (by decide) (fun c_17 => ?_) (fun c_17 => ?_)
              · refine lv_aload_n hx hb d_Floats_quotient_113 rfl (lv_at hl 3 rfl) ?_
                refine lv_lload_n hx hb d_Floats_quotient_114 rfl (lv_at hl 4 rfl) ?_
                refine si_ (As := [.ref (ad j0), .long a1]) (rest := []) hq (c_Floats_raisedScale l A ad j0 hj0 a1) kB_Floats_raisedScale wt_403 ⟨rfl, rfl, Nat.le_of_ble_eq_true rfl, Nat.le_of_ble_eq_true rfl⟩ rfl hl.1 rfl (Nat.le_of_ble_eq_true rfl) d_Floats_quotient_115 ⟨Nat.zero_le _, Nat.zero_le _⟩ ?_
                refine lv_aload_n hx hb d_Floats_quotient_118 rfl (lv_at hl 3 rfl) ?_
                refine lv_lload_n hx hb d_Floats_quotient_119 rfl (lv_at hl 5 rfl) ?_
                refine si_ (As := [.ref (ad j0), .long a2]) (rest := [.int (q_Floats_raisedScale j0 a1)]) hq (c_Floats_raisedScale l A ad j0 hj0 a2) kB_Floats_raisedScale wt_403 ⟨rfl, rfl, Nat.le_of_ble_eq_true rfl, Nat.le_of_ble_eq_true rfl⟩ rfl hl.1 rfl (Nat.le_of_ble_eq_true rfl) d_Floats_quotient_120 ⟨Nat.zero_le _, Nat.zero_le _⟩ ?_
                refine lv_isub hx hb d_Floats_quotient_123 ?_
                refine lv_bipush (v := (59 : Int32)) hx hb d_Floats_quotient_124 (by decide) ?_
                refine lv_isub hx hb d_Floats_quotient_126 ?_
                refine lv_istore (lv' := [(9, .int (((q_Floats_raisedScale j0 a1) - (q_Floats_raisedScale j0 a2)) - (59 : Int32))), (8, .int (0 : Int32)), (7, .int (0 : Int32)), (5, .long (q_Form_sign j0 (a1 ^^^ a2))), (0, .ref (ad j0)), (1, .long a1), (3, .long a2)]) hx hb d_Floats_quotient_127 hl (by decide) rfl (fun ls hl => ?_)
                refine lv_aload_n hx hb d_Floats_quotient_129 rfl (lv_at hl 4 rfl) ?_
                refine lv_lload hx hb d_Floats_quotient_130 (lv_at hl 3 rfl) ?_
                refine lv_aload_n hx hb d_Floats_quotient_132 rfl (lv_at hl 4 rfl) ?_
                refine lv_lload_n hx hb d_Floats_quotient_133 rfl (lv_at hl 5 rfl) ?_
                refine sl_ (As := [.ref (ad j0), .long a1]) (rest := [.long (q_Form_sign j0 (a1 ^^^ a2)), .ref (ad j0)]) hq (c_Floats_raised l A ad j0 hj0 a1) kB_Floats_raised wt_409 ⟨rfl, rfl, Nat.le_of_ble_eq_true rfl, Nat.le_of_ble_eq_true rfl⟩ rfl hl.1 rfl (Nat.le_of_ble_eq_true rfl) d_Floats_quotient_134 ⟨Nat.zero_le _, Nat.zero_le _⟩ ?_
                refine lv_aload_n hx hb d_Floats_quotient_137 rfl (lv_at hl 4 rfl) ?_
                refine lv_lload_n hx hb d_Floats_quotient_138 rfl (lv_at hl 6 rfl) ?_
                refine sl_ (As := [.ref (ad j0), .long a2]) (rest := [.long (q_Floats_raised j0 a1), .long (q_Form_sign j0 (a1 ^^^ a2)), .ref (ad j0)]) hq (c_Floats_raised l A ad j0 hj0 a2) kB_Floats_raised wt_409 ⟨rfl, rfl, Nat.le_of_ble_eq_true rfl, Nat.le_of_ble_eq_true rfl⟩ rfl hl.1 rfl (Nat.le_of_ble_eq_true rfl) d_Floats_quotient_139 ⟨Nat.zero_le _, Nat.zero_le _⟩ ?_
                refine sl_ (As := [.long (q_Floats_raised j0 a1), .long (q_Floats_raised j0 a2)]) (rest := [.long (q_Form_sign j0 (a1 ^^^ a2)), .ref (ad j0)]) hq (c_Floats_longDivision l A ad (q_Floats_raised j0 a1) (q_Floats_raised j0 a2)) kB_Floats_longDivision wt_439 ⟨rfl, rfl, Nat.le_of_ble_eq_true rfl, Nat.le_of_ble_eq_true rfl⟩ rfl hl.1 rfl (Nat.le_of_ble_eq_true rfl) d_Floats_quotient_142 ⟨Nat.zero_le _, Nat.zero_le _⟩ ?_
                refine lv_iload hx hb d_Floats_quotient_145 (lv_at hl 0 rfl) ?_
                refine vl_ (As := [.long (q_Form_sign j0 (a1 ^^^ a2)), .long (q_Floats_longDivision (q_Floats_raised j0 a1) (q_Floats_raised j0 a2)), .int (((q_Floats_raisedScale j0 a1) - (q_Floats_raisedScale j0 a2)) - (59 : Int32))]) (rest := []) hq hj0 (c_Form_rounded l A ad j0 hj0 (q_Form_sign j0 (a1 ^^^ a2)) (q_Floats_longDivision (q_Floats_raised j0 a1) (q_Floats_raised j0 a2)) (((q_Floats_raisedScale j0 a1) - (q_Floats_raisedScale j0 a2)) - (59 : Int32))) kB_Form_rounded wt_418 ⟨rfl, rfl, Nat.le_of_ble_eq_true rfl, Nat.le_of_ble_eq_true rfl⟩ rfl hl.1 rfl (Nat.le_of_ble_eq_true rfl) d_Floats_quotient_147 ⟨Nat.zero_le _, Nat.zero_le _⟩ ?_
                exact rl_ hx hb hr hk (by rw [q_Floats_quotient, if_neg c_1, if_pos c_12, if_pos c_13, if_pos c_14, if_pos c_15, if_pos c_16, if_pos c_17]) d_Floats_quotient_150
              · refine lv_lload hx hb d_Floats_quotient_110 (lv_at hl 2 rfl) ?_
                exact rl_ hx hb hr hk (by rw [q_Floats_quotient, if_neg c_1, if_pos c_12, if_pos c_13, if_pos c_14, if_pos c_15, if_pos c_16, if_neg c_17]) d_Floats_quotient_112
          · refine lv_lload hx hb d_Floats_quotient_86 (lv_at hl 2 rfl) ?_
            refine lv_aload_n hx hb d_Floats_quotient_88 rfl (lv_at hl 3 rfl) ?_
            refine gf_i hq hj0 wt_733 d_Floats_quotient_89 ?_
            refine lv_lor hx hb d_Floats_quotient_92 ?_
            exact rl_ hx hb hr hk (by rw [q_Floats_quotient, if_neg c_1, if_pos c_12, if_pos c_13, if_pos c_14, if_neg c_15]) d_Floats_quotient_93
      · refine lv_aload_n hx hb d_Floats_quotient_40 rfl (lv_at hl 2 rfl) ?_
        refine lv_lload_n hx hb d_Floats_quotient_41 rfl (lv_at hl 4 rfl) ?_
        refine vi_ (As := [.long a2]) (rest := []) hq hj0 (c_Form_isInfinite l A ad j0 hj0 a2) kB_Form_isInfinite wt_402 ⟨rfl, rfl, Nat.le_of_ble_eq_true rfl, Nat.le_of_ble_eq_true rfl⟩ rfl hl.1 rfl (Nat.le_of_ble_eq_true rfl) d_Floats_quotient_42 ⟨Nat.zero_le _, Nat.zero_le _⟩ ?_
        refine lv_if_eq (tgt := 52) hx hb d_Floats_quotient_45 (by decide) (fun c_18 => ?_) (fun c_18 => ?_)
        · refine lv_iconst (v := (0 : Int32)) hx hb d_Floats_quotient_52 (by decide) ?_
          refine lv_istore (lv' := [(8, .int (0 : Int32)), (7, .int (0 : Int32)), (5, .long (q_Form_sign j0 (a1 ^^^ a2))), (0, .ref (ad j0)), (1, .long a1), (3, .long a2)]) hx hb d_Floats_quotient_53 hl (by decide) rfl (fun ls hl => ?_)
          refine lv_iload hx hb d_Floats_quotient_55 (lv_at hl 1 rfl) ?_
          refine lv_if_ne (tgt := 65) hx hb d_Floats_quotient_57 (by decide) (fun c => absurd (by decide) c) (fun _ => ?_)
          refine lv_iload hx hb d_Floats_quotient_60 (lv_at hl 0 rfl) ?_
          refine lv_if_eq (tgt := 70) hx hb d_Floats_quotient_62 (by decide) (fun _ => ?_) (fun c => absurd (by decide) c)
          refine lv_aload_n hx hb d_Floats_quotient_70 rfl (lv_at hl 3 rfl) ?_
          refine lv_lload_n hx hb d_Floats_quotient_71 rfl (lv_at hl 4 rfl) ?_
          refine vi_ (As := [.long a1]) (rest := []) hq hj0 (c_Form_isInfinite l A ad j0 hj0 a1) kB_Form_isInfinite wt_402 ⟨rfl, rfl, Nat.le_of_ble_eq_true rfl, Nat.le_of_ble_eq_true rfl⟩ rfl hl.1 rfl (Nat.le_of_ble_eq_true rfl) d_Floats_quotient_72 ⟨Nat.zero_le _, Nat.zero_le _⟩ ?_
          refine lv_if_ne (tgt := 86) hx hb d_Floats_quotient_75 (by decide) (fun c_19 => ?_) (fun c_19 => ?_)
          · refine lv_lload hx hb d_Floats_quotient_86 (lv_at hl 2 rfl) ?_
            refine lv_aload_n hx hb d_Floats_quotient_88 rfl (lv_at hl 3 rfl) ?_
            refine gf_i hq hj0 wt_733 d_Floats_quotient_89 ?_
            refine lv_lor hx hb d_Floats_quotient_92 ?_
            exact rl_ hx hb hr hk (by rw [q_Floats_quotient, if_neg c_1, if_pos c_12, if_neg c_13, if_pos c_18, if_neg c_19]) d_Floats_quotient_93
          · refine lv_aload_n hx hb d_Floats_quotient_78 rfl (lv_at hl 3 rfl) ?_
            refine lv_lload_n hx hb d_Floats_quotient_79 rfl (lv_at hl 5 rfl) ?_
            refine vi_ (As := [.long a2]) (rest := []) hq hj0 (c_Form_isZero l A ad j0 hj0 a2) kB_Form_isZero wt_401 ⟨rfl, rfl, Nat.le_of_ble_eq_true rfl, Nat.le_of_ble_eq_true rfl⟩ rfl hl.1 rfl (Nat.le_of_ble_eq_true rfl) d_Floats_quotient_80 ⟨Nat.zero_le _, Nat.zero_le _⟩ ?_
            refine lv_if_eq (tgt := 94) hx hb d_Floats_quotient_83 (by decide) (fun c_20 => ?_) (fun c_20 => ?_)
            · refine lv_aload_n hx hb d_Floats_quotient_94 rfl (lv_at hl 3 rfl) ?_
              refine lv_lload_n hx hb d_Floats_quotient_95 rfl (lv_at hl 5 rfl) ?_
              refine vi_ (As := [.long a2]) (rest := []) hq hj0 (c_Form_isInfinite l A ad j0 hj0 a2) kB_Form_isInfinite wt_402 ⟨rfl, rfl, Nat.le_of_ble_eq_true rfl, Nat.le_of_ble_eq_true rfl⟩ rfl hl.1 rfl (Nat.le_of_ble_eq_true rfl) d_Floats_quotient_96 ⟨Nat.zero_le _, Nat.zero_le _⟩ ?_
              refine lv_if_ne (tgt := 110) hx hb d_Floats_quotient_99 (by decide) (fun c_21 => ?_) (fun c_21 => ?_)
              · refine lv_lload hx hb d_Floats_quotient_110 (lv_at hl 2 rfl) ?_
                exact rl_ hx hb hr hk (by rw [q_Floats_quotient, if_neg c_1, if_pos c_12, if_neg c_13, if_pos c_18, if_pos c_19, if_pos c_20, if_neg c_21]) d_Floats_quotient_112
              · refine lv_aload_n hx hb d_Floats_quotient_102 rfl (lv_at hl 3 rfl) ?_
                refine lv_lload_n hx hb d_Floats_quotient_103 rfl (lv_at hl 4 rfl) ?_
                refine vi_ (As := [.long a1]) (rest := []) hq hj0 (c_Form_isZero l A ad j0 hj0 a1) kB_Form_isZero wt_401 ⟨rfl, rfl, Nat.le_of_ble_eq_true rfl, Nat.le_of_ble_eq_true rfl⟩ rfl hl.1 rfl (Nat.le_of_ble_eq_true rfl) d_Floats_quotient_104 ⟨Nat.zero_le _, Nat.zero_le _⟩ ?_
                refine lv_if_eq (tgt := 113) hx hb d_Floats_quotient_107 (by decide) (fun c_22 => ?_) (fun c_22 => ?_)
                · refine lv_aload_n hx hb d_Floats_quotient_113 rfl (lv_at hl 3 rfl) ?_
                  refine lv_lload_n hx hb d_Floats_quotient_114 rfl (lv_at hl 4 rfl) ?_
                  refine si_ (As := [.ref (ad j0), .long a1]) (rest := []) hq (c_Floats_raisedScale l A ad j0 hj0 a1) kB_Floats_raisedScale wt_403 ⟨rfl, rfl, Nat.le_of_ble_eq_true rfl, Nat.le_of_ble_eq_true rfl⟩ rfl hl.1 rfl (Nat.le_of_ble_eq_true rfl) d_Floats_quotient_115 ⟨Nat.zero_le _, Nat.zero_le _⟩ ?_
                  refine lv_aload_n hx hb d_Floats_quotient_118 rfl (lv_at hl 3 rfl) ?_
                  refine lv_lload_n hx hb d_Floats_quotient_119 rfl (lv_at hl 5 rfl) ?_
                  refine si_ (As := [.ref (ad j0), .long a2]) (rest := [.int (q_Floats_raisedScale j0 a1)]) hq (c_Floats_raisedScale l A ad j0 hj0 a2) kB_Floats_raisedScale wt_403 ⟨rfl, rfl, Nat.le_of_ble_eq_true rfl, Nat.le_of_ble_eq_true rfl⟩ rfl hl.1 rfl (Nat.le_of_ble_eq_true rfl) d_Floats_quotient_120 ⟨Nat.zero_le _, Nat.zero_le _⟩ ?_
                  refine lv_isub hx hb d_Floats_quotient_123 ?_
                  refine lv_bipush (v := (59 : Int32)) hx hb d_Floats_quotient_124 (by decide) ?_
                  refine lv_isub hx hb d_Floats_quotient_126 ?_
                  refine lv_istore (lv' := [(9, .int (((q_Floats_raisedScale j0 a1) - (q_Floats_raisedScale j0 a2)) - (59 : Int32))), (8, .int (0 : Int32)), (7, .int (0 : Int32)), (5, .long (q_Form_sign j0 (a1 ^^^ a2))), (0, .ref (ad j0)), (1, .long a1), (3, .long a2)]) hx hb d_Floats_quotient_127 hl (by decide) rfl (fun ls hl => ?_)
                  refine lv_aload_n hx hb d_Floats_quotient_129 rfl (lv_at hl 4 rfl) ?_
                  refine lv_lload hx hb d_Floats_quotient_130 (lv_at hl 3 rfl) ?_
                  refine lv_aload_n hx hb d_Floats_quotient_132 rfl (lv_at hl 4 rfl) ?_
                  refine lv_lload_n hx hb d_Floats_quotient_133 rfl (lv_at hl 5 rfl) ?_
                  refine sl_ (As := [.ref (ad j0), .long a1]) (rest := [.long (q_Form_sign j0 (a1 ^^^ a2)), .ref (ad j0)]) hq (c_Floats_raised l A ad j0 hj0 a1) kB_Floats_raised wt_409 ⟨rfl, rfl, Nat.le_of_ble_eq_true rfl, Nat.le_of_ble_eq_true rfl⟩ rfl hl.1 rfl (Nat.le_of_ble_eq_true rfl) d_Floats_quotient_134 ⟨Nat.zero_le _, Nat.zero_le _⟩ ?_
                  refine lv_aload_n hx hb d_Floats_quotient_137 rfl (lv_at hl 4 rfl) ?_
                  refine lv_lload_n hx hb d_Floats_quotient_138 rfl (lv_at hl 6 rfl) ?_
                  refine sl_ (As := [.ref (ad j0), .long a2]) (rest := [.long (q_Floats_raised j0 a1), .long (q_Form_sign j0 (a1 ^^^ a2)), .ref (ad j0)]) hq (c_Floats_raised l A ad j0 hj0 a2) kB_Floats_raised wt_409 ⟨rfl, rfl, Nat.le_of_ble_eq_true rfl, Nat.le_of_ble_eq_true rfl⟩ rfl hl.1 rfl (Nat.le_of_ble_eq_true rfl) d_Floats_quotient_139 ⟨Nat.zero_le _, Nat.zero_le _⟩ ?_
                  refine sl_ (As := [.long (q_Floats_raised j0 a1), .long (q_Floats_raised j0 a2)]) (rest := [.long (q_Form_sign j0 (a1 ^^^ a2)), .ref (ad j0)]) hq (c_Floats_longDivision l A ad (q_Floats_raised j0 a1) (q_Floats_raised j0 a2)) kB_Floats_longDivision wt_439 ⟨rfl, rfl, Nat.le_of_ble_eq_true rfl, Nat.le_of_ble_eq_true rfl⟩ rfl hl.1 rfl (Nat.le_of_ble_eq_true rfl) d_Floats_quotient_142 ⟨Nat.zero_le _, Nat.zero_le _⟩ ?_
                  refine lv_iload hx hb d_Floats_quotient_145 (lv_at hl 0 rfl) ?_
                  refine vl_ (As := [.long (q_Form_sign j0 (a1 ^^^ a2)), .long (q_Floats_longDivision (q_Floats_raised j0 a1) (q_Floats_raised j0 a2)), .int (((q_Floats_raisedScale j0 a1) - (q_Floats_raisedScale j0 a2)) - (59 : Int32))]) (rest := []) hq hj0 (c_Form_rounded l A ad j0 hj0 (q_Form_sign j0 (a1 ^^^ a2)) (q_Floats_longDivision (q_Floats_raised j0 a1) (q_Floats_raised j0 a2)) (((q_Floats_raisedScale j0 a1) - (q_Floats_raisedScale j0 a2)) - (59 : Int32))) kB_Form_rounded wt_418 ⟨rfl, rfl, Nat.le_of_ble_eq_true rfl, Nat.le_of_ble_eq_true rfl⟩ rfl hl.1 rfl (Nat.le_of_ble_eq_true rfl) d_Floats_quotient_147 ⟨Nat.zero_le _, Nat.zero_le _⟩ ?_
                  exact rl_ hx hb hr hk (by rw [q_Floats_quotient, if_neg c_1, if_pos c_12, if_neg c_13, if_pos c_18, if_pos c_19, if_pos c_20, if_pos c_21, if_pos c_22]) d_Floats_quotient_150
                · refine lv_lload hx hb d_Floats_quotient_110 (lv_at hl 2 rfl) ?_
                  exact rl_ hx hb hr hk (by rw [q_Floats_quotient, if_neg c_1, if_pos c_12, if_neg c_13, if_pos c_18, if_pos c_19, if_pos c_20, if_pos c_21, if_neg c_22]) d_Floats_quotient_112
            · refine lv_lload hx hb d_Floats_quotient_86 (lv_at hl 2 rfl) ?_
              refine lv_aload_n hx hb d_Floats_quotient_88 rfl (lv_at hl 3 rfl) ?_
              refine gf_i hq hj0 wt_733 d_Floats_quotient_89 ?_
              refine lv_lor hx hb d_Floats_quotient_92 ?_
              exact rl_ hx hb hr hk (by rw [q_Floats_quotient, if_neg c_1, if_pos c_12, if_neg c_13, if_pos c_18, if_pos c_19, if_neg c_20]) d_Floats_quotient_93
        · refine lv_iconst (v := (1 : Int32)) hx hb d_Floats_quotient_48 (by decide) ?_
          refine lv_goto (tgt := 53) hx hb d_Floats_quotient_49 (by decide) ?_
          refine lv_istore (lv' := [(8, .int (1 : Int32)), (7, .int (0 : Int32)), (5, .long (q_Form_sign j0 (a1 ^^^ a2))), (0, .ref (ad j0)), (1, .long a1), (3, .long a2)]) hx hb d_Floats_quotient_53 hl (by decide) rfl (fun ls hl => ?_)
          refine lv_iload hx hb d_Floats_quotient_55 (lv_at hl 1 rfl) ?_
          refine lv_if_ne (tgt := 65) hx hb d_Floats_quotient_57 (by decide) (fun c => absurd (by decide) c) (fun _ => ?_)
          refine lv_iload hx hb d_Floats_quotient_60 (lv_at hl 0 rfl) ?_
          refine lv_if_eq (tgt := 70) hx hb d_Floats_quotient_62 (by decide) (fun c => absurd c (by decide)) (fun _ => ?_)
          refine lv_aload_n hx hb d_Floats_quotient_65 rfl (lv_at hl 3 rfl) ?_
          refine gf_n hq hj0 wt_732 d_Floats_quotient_66 ?_
          exact rl_ hx hb hr hk (by rw [q_Floats_quotient, if_neg c_1, if_pos c_12, if_neg c_13, if_neg c_18]) d_Floats_quotient_69
    · refine lv_iconst (v := (1 : Int32)) hx hb d_Floats_quotient_25 (by decide) ?_
      refine lv_goto (tgt := 30) hx hb d_Floats_quotient_26 (by decide) ?_
      refine lv_istore (lv' := [(7, .int (1 : Int32)), (5, .long (q_Form_sign j0 (a1 ^^^ a2))), (0, .ref (ad j0)), (1, .long a1), (3, .long a2)]) hx hb d_Floats_quotient_30 hl (by decide) rfl (fun ls hl => ?_)
      refine lv_aload_n hx hb d_Floats_quotient_32 rfl (lv_at hl 2 rfl) ?_
      refine lv_lload_n hx hb d_Floats_quotient_33 rfl (lv_at hl 3 rfl) ?_
      refine vi_ (As := [.long a1]) (rest := []) hq hj0 (c_Form_isInfinite l A ad j0 hj0 a1) kB_Form_isInfinite wt_402 ⟨rfl, rfl, Nat.le_of_ble_eq_true rfl, Nat.le_of_ble_eq_true rfl⟩ rfl hl.1 rfl (Nat.le_of_ble_eq_true rfl) d_Floats_quotient_34 ⟨Nat.zero_le _, Nat.zero_le _⟩ ?_
      refine lv_if_eq (tgt := 52) hx hb d_Floats_quotient_37 (by decide) (fun c_23 => ?_) (fun c_23 => ?_)
      · refine lv_iconst (v := (0 : Int32)) hx hb d_Floats_quotient_52 (by decide) ?_
        refine lv_istore (lv' := [(8, .int (0 : Int32)), (7, .int (1 : Int32)), (5, .long (q_Form_sign j0 (a1 ^^^ a2))), (0, .ref (ad j0)), (1, .long a1), (3, .long a2)]) hx hb d_Floats_quotient_53 hl (by decide) rfl (fun ls hl => ?_)
        refine lv_iload hx hb d_Floats_quotient_55 (lv_at hl 1 rfl) ?_
        refine lv_if_ne (tgt := 65) hx hb d_Floats_quotient_57 (by decide) (fun _ => ?_) (fun c => absurd c (by decide))
        refine lv_aload_n hx hb d_Floats_quotient_65 rfl (lv_at hl 3 rfl) ?_
        refine gf_n hq hj0 wt_732 d_Floats_quotient_66 ?_
        exact rl_ hx hb hr hk (by rw [q_Floats_quotient, if_neg c_1, if_neg c_12, if_pos c_23]) d_Floats_quotient_69
      · refine lv_aload_n hx hb d_Floats_quotient_40 rfl (lv_at hl 2 rfl) ?_
        refine lv_lload_n hx hb d_Floats_quotient_41 rfl (lv_at hl 4 rfl) ?_
        refine vi_ (As := [.long a2]) (rest := []) hq hj0 (c_Form_isInfinite l A ad j0 hj0 a2) kB_Form_isInfinite wt_402 ⟨rfl, rfl, Nat.le_of_ble_eq_true rfl, Nat.le_of_ble_eq_true rfl⟩ rfl hl.1 rfl (Nat.le_of_ble_eq_true rfl) d_Floats_quotient_42 ⟨Nat.zero_le _, Nat.zero_le _⟩ ?_
        refine lv_if_eq (tgt := 52) hx hb d_Floats_quotient_45 (by decide) (fun c_24 => ?_) (fun c_24 => ?_)
        · refine lv_iconst (v := (0 : Int32)) hx hb d_Floats_quotient_52 (by decide) ?_
          refine lv_istore (lv' := [(8, .int (0 : Int32)), (7, .int (1 : Int32)), (5, .long (q_Form_sign j0 (a1 ^^^ a2))), (0, .ref (ad j0)), (1, .long a1), (3, .long a2)]) hx hb d_Floats_quotient_53 hl (by decide) rfl (fun ls hl => ?_)
          refine lv_iload hx hb d_Floats_quotient_55 (lv_at hl 1 rfl) ?_
          refine lv_if_ne (tgt := 65) hx hb d_Floats_quotient_57 (by decide) (fun _ => ?_) (fun c => absurd c (by decide))
          refine lv_aload_n hx hb d_Floats_quotient_65 rfl (lv_at hl 3 rfl) ?_
          refine gf_n hq hj0 wt_732 d_Floats_quotient_66 ?_
          exact rl_ hx hb hr hk (by rw [q_Floats_quotient, if_neg c_1, if_neg c_12, if_neg c_23, if_pos c_24]) d_Floats_quotient_69
        · refine lv_iconst (v := (1 : Int32)) hx hb d_Floats_quotient_48 (by decide) ?_
          refine lv_goto (tgt := 53) hx hb d_Floats_quotient_49 (by decide) ?_
          refine lv_istore (lv' := [(8, .int (1 : Int32)), (7, .int (1 : Int32)), (5, .long (q_Form_sign j0 (a1 ^^^ a2))), (0, .ref (ad j0)), (1, .long a1), (3, .long a2)]) hx hb d_Floats_quotient_53 hl (by decide) rfl (fun ls hl => ?_)
          refine lv_iload hx hb d_Floats_quotient_55 (lv_at hl 1 rfl) ?_
          refine lv_if_ne (tgt := 65) hx hb d_Floats_quotient_57 (by decide) (fun _ => ?_) (fun c => absurd c (by decide))
          refine lv_aload_n hx hb d_Floats_quotient_65 rfl (lv_at hl 3 rfl) ?_
          refine gf_n hq hj0 wt_732 d_Floats_quotient_66 ?_
          exact rl_ hx hb hr hk (by rw [q_Floats_quotient, if_neg c_1, if_neg c_12, if_neg c_23, if_neg c_24]) d_Floats_quotient_69
def q_Floats_root (j0 : Nat) (a1 : Int64) : Int64 :=
  if (q_Form_isZero j0 a1) = 0 then
    if (q_Form_sign j0 a1) = (0 : Int64) then
      if (q_Form_isInfinite j0 a1) = 0 then
        (q_Form_rounded j0 (0 : Int64) (q_Floats_longRoot (shl_ (q_Floats_raised j0 a1) ((q_Floats_raisedScale j0 a1) &&& (1 : Int32)))) ((((q_Floats_raisedScale j0 a1) - ((q_Floats_raisedScale j0 a1) &&& (1 : Int32))) >>> ((1 : Int32) &&& 31)) - (24 : Int32)))
      else
        a1
    else
      (fm_n j0)
  else
    a1
theorem kB_Floats_root : SB y_Floats_root b_Floats_root 7 (some .long) 2 := ⟨wt_400, wt_399, wt_53, by decide +kernel⟩
set_option maxHeartbeats 4000000 in
set_option maxRecDepth 100000 in
theorem c_Floats_root (l : Launch) (A : Nat → Prop) (ad : Nat → Nat) (j0 : Nat) (hj0 : j0 < 2) (a1 : Int64) : Met l y_Floats_root (Cond.code y_Floats_root b_Floats_root 7 (some .long) :: BT) ({ frames := 3, cells := 0, slots := 0, locals := 78 }) (PC A ad [.ref (ad j0), .long a1]) (vp_Sl (fun r => r = q_Floats_root j0 a1)) 0 0 (fun _ => False) := by
  refine pm_ (by decide +kernel) (Nat.le_of_ble_eq_true rfl) ?_
  intro p e s m below meth c hq hr hk ls hl
  have hx := hq.1
  have hb := hq.2.1
  have hts := hq.2.2.2.2.1
  have hl : lv_has ls 7 [(0, .ref (ad j0)), (1, .long a1)] := hl
  refine lv_aload_n hx hb d_Floats_root_0 rfl (lv_at hl 0 rfl) ?_
  refine lv_lload_n hx hb d_Floats_root_1 rfl (lv_at hl 1 rfl) ?_
  refine vi_ (As := [.long a1]) (rest := []) hq hj0 (c_Form_isZero l A ad j0 hj0 a1) kB_Form_isZero wt_401 ⟨rfl, rfl, Nat.le_of_ble_eq_true rfl, Nat.le_of_ble_eq_true rfl⟩ rfl hl.1 rfl (Nat.le_of_ble_eq_true rfl) d_Floats_root_2 ⟨Nat.zero_le _, Nat.zero_le _⟩ ?_
  refine lv_if_eq (tgt := 10) hx hb d_Floats_root_5 (by decide) (fun c_1 => ?_) (fun c_1 => ?_)
  · refine lv_aload_n hx hb d_Floats_root_10 rfl (lv_at hl 0 rfl) ?_
    refine lv_lload_n hx hb d_Floats_root_11 rfl (lv_at hl 1 rfl) ?_
    refine vl_ (As := [.long a1]) (rest := []) hq hj0 (c_Form_sign l A ad j0 hj0 a1) kB_Form_sign wt_393 ⟨rfl, rfl, Nat.le_of_ble_eq_true rfl, Nat.le_of_ble_eq_true rfl⟩ rfl hl.1 rfl (Nat.le_of_ble_eq_true rfl) d_Floats_root_12 ⟨Nat.zero_le _, Nat.zero_le _⟩ ?_
    refine lv_lconst (v := (0 : Int64)) hx hb d_Floats_root_15 (by decide) ?_
    refine W.lcmp hx hb d_Floats_root_16 ?_
    refine lv_if_eq (tgt := 25) hx hb d_Floats_root_17 (by decide) (fun c_2 => ?_) (fun c_2 => ?_)
    · rw [lg_cmp_eq] at c_2
      refine lv_aload_n hx hb d_Floats_root_25 rfl (lv_at hl 0 rfl) ?_
      refine lv_lload_n hx hb d_Floats_root_26 rfl (lv_at hl 1 rfl) ?_
      refine vi_ (As := [.long a1]) (rest := []) hq hj0 (c_Form_isInfinite l A ad j0 hj0 a1) kB_Form_isInfinite wt_402 ⟨rfl, rfl, Nat.le_of_ble_eq_true rfl, Nat.le_of_ble_eq_true rfl⟩ rfl hl.1 rfl (Nat.le_of_ble_eq_true rfl) d_Floats_root_27 ⟨Nat.zero_le _, Nat.zero_le _⟩ ?_
      refine lv_if_eq (tgt := 35) hx hb d_Floats_root_30 (by decide) (fun c_3 => ?_) (fun c_3 => ?_)
      · refine lv_aload_n hx hb d_Floats_root_35 rfl (lv_at hl 0 rfl) ?_
        refine lv_lload_n hx hb d_Floats_root_36 rfl (lv_at hl 1 rfl) ?_
        refine si_ (As := [.ref (ad j0), .long a1]) (rest := []) hq (c_Floats_raisedScale l A ad j0 hj0 a1) kB_Floats_raisedScale wt_403 ⟨rfl, rfl, Nat.le_of_ble_eq_true rfl, Nat.le_of_ble_eq_true rfl⟩ rfl hl.1 rfl (Nat.le_of_ble_eq_true rfl) d_Floats_root_37 ⟨Nat.zero_le _, Nat.zero_le _⟩ ?_
        refine lv_iconst (v := (1 : Int32)) hx hb d_Floats_root_40 (by decide) ?_
        refine lv_iand hx hb d_Floats_root_41 ?_
        refine lv_istore_n (lv' := [(3, .int ((q_Floats_raisedScale j0 a1) &&& (1 : Int32))), (0, .ref (ad j0)), (1, .long a1)]) hx hb d_Floats_root_42 rfl hl (by decide) rfl (fun ls hl => ?_)
        refine lv_aload_n hx hb d_Floats_root_43 rfl (lv_at hl 1 rfl) ?_
        refine lv_lload_n hx hb d_Floats_root_44 rfl (lv_at hl 2 rfl) ?_
        refine sl_ (As := [.ref (ad j0), .long a1]) (rest := []) hq (c_Floats_raised l A ad j0 hj0 a1) kB_Floats_raised wt_409 ⟨rfl, rfl, Nat.le_of_ble_eq_true rfl, Nat.le_of_ble_eq_true rfl⟩ rfl hl.1 rfl (Nat.le_of_ble_eq_true rfl) d_Floats_root_45 ⟨Nat.zero_le _, Nat.zero_le _⟩ ?_
        refine lv_iload_n hx hb d_Floats_root_48 rfl (lv_at hl 0 rfl) ?_
        refine lv_lshl (v := (shl_ (q_Floats_raised j0 a1) ((q_Floats_raisedScale j0 a1) &&& (1 : Int32)))) hx hb d_Floats_root_49 rfl ?_
        refine lv_lstore (lv' := [(4, .long (shl_ (q_Floats_raised j0 a1) ((q_Floats_raisedScale j0 a1) &&& (1 : Int32)))), (3, .int ((q_Floats_raisedScale j0 a1) &&& (1 : Int32))), (0, .ref (ad j0)), (1, .long a1)]) hx hb d_Floats_root_50 hl (by decide) rfl (fun ls hl => ?_)
        refine lv_aload_n hx hb d_Floats_root_52 rfl (lv_at hl 2 rfl) ?_
        refine lv_lload_n hx hb d_Floats_root_53 rfl (lv_at hl 3 rfl) ?_
        refine si_ (As := [.ref (ad j0), .long a1]) (rest := []) hq (c_Floats_raisedScale l A ad j0 hj0 a1) kB_Floats_raisedScale wt_403 ⟨rfl, rfl, Nat.le_of_ble_eq_true rfl, Nat.le_of_ble_eq_true rfl⟩ rfl hl.1 rfl (Nat.le_of_ble_eq_true rfl) d_Floats_root_54 ⟨Nat.zero_le _, Nat.zero_le _⟩ ?_
        refine lv_iload_n hx hb d_Floats_root_57 rfl (lv_at hl 1 rfl) ?_
        refine lv_isub hx hb d_Floats_root_58 ?_
        refine lv_iconst (v := (1 : Int32)) hx hb d_Floats_root_59 (by decide) ?_
        refine lv_ishr hx hb d_Floats_root_60 ?_
        refine lv_istore (lv' := [(6, .int (((q_Floats_raisedScale j0 a1) - ((q_Floats_raisedScale j0 a1) &&& (1 : Int32))) >>> ((1 : Int32) &&& 31))), (4, .long (shl_ (q_Floats_raised j0 a1) ((q_Floats_raisedScale j0 a1) &&& (1 : Int32)))), (3, .int ((q_Floats_raisedScale j0 a1) &&& (1 : Int32))), (0, .ref (ad j0)), (1, .long a1)]) hx hb d_Floats_root_61 hl (by decide) rfl (fun ls hl => ?_)
        refine lv_aload_n hx hb d_Floats_root_63 rfl (lv_at hl 3 rfl) ?_
        refine lv_lconst (v := (0 : Int64)) hx hb d_Floats_root_64 (by decide) ?_
        refine lv_lload hx hb d_Floats_root_65 (lv_at hl 1 rfl) ?_
        refine sl_ (As := [.long (shl_ (q_Floats_raised j0 a1) ((q_Floats_raisedScale j0 a1) &&& (1 : Int32)))]) (rest := [.long (0 : Int64), .ref (ad j0)]) hq (c_Floats_longRoot l A ad (shl_ (q_Floats_raised j0 a1) ((q_Floats_raisedScale j0 a1) &&& (1 : Int32)))) kB_Floats_longRoot wt_412 ⟨rfl, rfl, Nat.le_of_ble_eq_true rfl, Nat.le_of_ble_eq_true rfl⟩ rfl hl.1 rfl (Nat.le_of_ble_eq_true rfl) d_Floats_root_67 ⟨Nat.zero_le _, Nat.zero_le _⟩ ?_
        refine lv_iload hx hb d_Floats_root_70 (lv_at hl 0 rfl) ?_
        refine lv_bipush (v := (24 : Int32)) hx hb d_Floats_root_72 (by decide) ?_
        refine lv_isub hx hb d_Floats_root_74 ?_
        refine vl_ (As := [.long (0 : Int64), .long (q_Floats_longRoot (shl_ (q_Floats_raised j0 a1) ((q_Floats_raisedScale j0 a1) &&& (1 : Int32)))), .int ((((q_Floats_raisedScale j0 a1) - ((q_Floats_raisedScale j0 a1) &&& (1 : Int32))) >>> ((1 : Int32) &&& 31)) - (24 : Int32))]) (rest := []) hq hj0 (c_Form_rounded l A ad j0 hj0 (0 : Int64) (q_Floats_longRoot (shl_ (q_Floats_raised j0 a1) ((q_Floats_raisedScale j0 a1) &&& (1 : Int32)))) ((((q_Floats_raisedScale j0 a1) - ((q_Floats_raisedScale j0 a1) &&& (1 : Int32))) >>> ((1 : Int32) &&& 31)) - (24 : Int32))) kB_Form_rounded wt_418 ⟨rfl, rfl, Nat.le_of_ble_eq_true rfl, Nat.le_of_ble_eq_true rfl⟩ rfl hl.1 rfl (Nat.le_of_ble_eq_true rfl) d_Floats_root_75 ⟨Nat.zero_le _, Nat.zero_le _⟩ ?_
        exact rl_ hx hb hr hk (by rw [q_Floats_root, if_pos c_1, if_pos c_2, if_pos c_3]) d_Floats_root_78
      · refine lv_lload_n hx hb d_Floats_root_33 rfl (lv_at hl 1 rfl) ?_
        exact rl_ hx hb hr hk (by rw [q_Floats_root, if_pos c_1, if_pos c_2, if_neg c_3]) d_Floats_root_34
    · rw [lg_cmp_eq] at c_2
      refine lv_aload_n hx hb d_Floats_root_20 rfl (lv_at hl 0 rfl) ?_
      refine gf_n hq hj0 wt_732 d_Floats_root_21 ?_
      exact rl_ hx hb hr hk (by rw [q_Floats_root, if_pos c_1, if_neg c_2]) d_Floats_root_24
  · refine lv_lload_n hx hb d_Floats_root_8 rfl (lv_at hl 1 rfl) ?_
    exact rl_ hx hb hr hk (by rw [q_Floats_root, if_neg c_1]) d_Floats_root_9
def q_Floats_calculate (a0 : Int32) (j1 : Nat) (a2 : Int64) (a3 : Int64) : Int64 :=
  if a0 = (139 : Int32) then
    (q_Form_withoutSign j1 a2)
  else
    if a0 = (140 : Int32) then
      (a2 ^^^ (fm_s j1))
    else
      if a0 = (152 : Int32) then
        ((q_Form_withoutSign j1 a2) ||| (q_Form_sign j1 a3))
      else
        if a0 < (146 : Int32) then
          if (q_Form_isNoNumber j1 a2) = 0 then
            if a0 = (145 : Int32) then
              (q_Floats_root j1 a2)
            else
              if a0 = (146 : Int32) then
                (q_Floats_sum j1 a2 a3)
              else
                if a0 = (147 : Int32) then
                  (q_Floats_sum j1 a2 (a3 ^^^ (fm_s j1)))
                else
                  if a0 = (148 : Int32) then
                    (q_Floats_product j1 a2 a3)
                  else
                    if a0 = (149 : Int32) then
                      (q_Floats_quotient j1 a2 a3)
                    else
                      if a0 = (150 : Int32) then
                        if (q_Floats_isBelow j1 a3 a2) = 0 then
                          a2
                        else
                          a3
                      else
                        if a0 = (151 : Int32) then
                          if (q_Floats_isBelow j1 a2 a3) = 0 then
                            a2
                          else
                            a3
                        else
                          (q_Steps_toWhole a0 j1 a2)
          else
            (fm_n j1)
        else
          if (q_Form_isNoNumber j1 a2) = 0 then
            if (q_Form_isNoNumber j1 a3) = 0 then
              if a0 = (145 : Int32) then
                (q_Floats_root j1 a2)
              else
                if a0 = (146 : Int32) then
                  (q_Floats_sum j1 a2 a3)
                else
                  if a0 = (147 : Int32) then
                    (q_Floats_sum j1 a2 (a3 ^^^ (fm_s j1)))
                  else
                    if a0 = (148 : Int32) then
                      (q_Floats_product j1 a2 a3)
                    else
                      if a0 = (149 : Int32) then
                        (q_Floats_quotient j1 a2 a3)
                      else
                        if a0 = (150 : Int32) then
                          if (q_Floats_isBelow j1 a3 a2) = 0 then
                            a2
                          else
                            a3
                        else
                          if a0 = (151 : Int32) then
                            if (q_Floats_isBelow j1 a2 a3) = 0 then
                              a2
                            else
                              a3
                          else
                            (q_Steps_toWhole a0 j1 a2)
            else
              (fm_n j1)
          else
            (fm_n j1)
theorem kB_Floats_calculate : SB y_Floats_calculate b_Floats_calculate 7 (some .long) 4 := ⟨wt_397, wt_396, wt_53, by decide +kernel⟩
set_option maxHeartbeats 4000000 in
set_option maxRecDepth 100000 in
theorem c_Floats_calculate (l : Launch) (A : Nat → Prop) (ad : Nat → Nat) (a0 : Int32) (j1 : Nat) (hj1 : j1 < 2) (a2 : Int64) (a3 : Int64) : Met l y_Floats_calculate (Cond.code y_Floats_calculate b_Floats_calculate 7 (some .long) :: BT) ({ frames := 5, cells := 0, slots := 0, locals := 134 }) (PC A ad [.int a0, .ref (ad j1), .long a2, .long a3]) (vp_Sl (fun r => r = q_Floats_calculate a0 j1 a2 a3)) 0 0 (fun _ => False) := by
  refine pm_ (by decide +kernel) (Nat.le_of_ble_eq_true rfl) ?_
  intro p e s m below meth c hq hr hk ls hl
  have hx := hq.1
  have hb := hq.2.1
  have hts := hq.2.2.2.2.1
  have hl : lv_has ls 7 [(0, .int a0), (1, .ref (ad j1)), (2, .long a2), (4, .long a3)] := hl
  refine lv_iload_n hx hb d_Floats_calculate_0 rfl (lv_at hl 0 rfl) ?_
  by_cases c_1 : a0 = (139 : Int32)
  · refine lv_lookup (off := (35 : Int)) (tgt := 36) hx hb d_Floats_calculate_1 (by decide) (by rw [c_1] <;> rfl) (by decide) ?_
    refine lv_aload_n hx hb d_Floats_calculate_36 rfl (lv_at hl 1 rfl) ?_
    refine lv_lload_n hx hb d_Floats_calculate_37 rfl (lv_at hl 2 rfl) ?_
    refine vl_ (As := [.long a2]) (rest := []) hq hj1 (c_Form_withoutSign l A ad j1 hj1 a2) kB_Form_withoutSign wt_394 ⟨rfl, rfl, Nat.le_of_ble_eq_true rfl, Nat.le_of_ble_eq_true rfl⟩ rfl hl.1 rfl (Nat.le_of_ble_eq_true rfl) d_Floats_calculate_38 ⟨Nat.zero_le _, Nat.zero_le _⟩ ?_
    exact rl_ hx hb hr hk (by rw [q_Floats_calculate, if_pos c_1]) d_Floats_calculate_41
  by_cases c_2 : a0 = (140 : Int32)
  · refine lv_lookup (off := (41 : Int)) (tgt := 42) hx hb d_Floats_calculate_1 (by decide) (by rw [c_2] <;> rfl) (by decide) ?_
    refine lv_lload_n hx hb d_Floats_calculate_42 rfl (lv_at hl 2 rfl) ?_
    refine lv_aload_n hx hb d_Floats_calculate_43 rfl (lv_at hl 1 rfl) ?_
    refine gf_s hq hj1 wt_731 d_Floats_calculate_44 ?_
    refine lv_lxor hx hb d_Floats_calculate_47 ?_
    exact rl_ hx hb hr hk (by rw [q_Floats_calculate, if_neg c_1, if_pos c_2]) d_Floats_calculate_48
  by_cases c_3 : a0 = (152 : Int32)
  · refine lv_lookup (off := (48 : Int)) (tgt := 49) hx hb d_Floats_calculate_1 (by decide) (by rw [c_3] <;> rfl) (by decide) ?_
    refine lv_aload_n hx hb d_Floats_calculate_49 rfl (lv_at hl 1 rfl) ?_
    refine lv_lload_n hx hb d_Floats_calculate_50 rfl (lv_at hl 2 rfl) ?_
    refine vl_ (As := [.long a2]) (rest := []) hq hj1 (c_Form_withoutSign l A ad j1 hj1 a2) kB_Form_withoutSign wt_394 ⟨rfl, rfl, Nat.le_of_ble_eq_true rfl, Nat.le_of_ble_eq_true rfl⟩ rfl hl.1 rfl (Nat.le_of_ble_eq_true rfl) d_Floats_calculate_51 ⟨Nat.zero_le _, Nat.zero_le _⟩ ?_
    refine lv_aload_n hx hb d_Floats_calculate_54 rfl (lv_at hl 1 rfl) ?_
    refine lv_lload hx hb d_Floats_calculate_55 (lv_at hl 3 rfl) ?_
    refine vl_ (As := [.long a3]) (rest := [.long (q_Form_withoutSign j1 a2)]) hq hj1 (c_Form_sign l A ad j1 hj1 a3) kB_Form_sign wt_393 ⟨rfl, rfl, Nat.le_of_ble_eq_true rfl, Nat.le_of_ble_eq_true rfl⟩ rfl hl.1 rfl (Nat.le_of_ble_eq_true rfl) d_Floats_calculate_57 ⟨Nat.zero_le _, Nat.zero_le _⟩ ?_
    refine lv_lor hx hb d_Floats_calculate_60 ?_
    exact rl_ hx hb hr hk (by rw [q_Floats_calculate, if_neg c_1, if_neg c_2, if_pos c_3]) d_Floats_calculate_61
  refine lv_lookup (off := (61 : Int)) (tgt := 62) hx hb d_Floats_calculate_1 (by decide) ((lv_osw c_1 (by decide)).trans <| (lv_osw c_2 (by decide)).trans <| (lv_osw c_3 (by decide)).trans <| rfl) (by decide) ?_
  refine lv_iload_n hx hb d_Floats_calculate_62 rfl (lv_at hl 0 rfl) ?_
  refine lv_sipush (v := (146 : Int32)) hx hb d_Floats_calculate_63 (by decide) ?_
  refine lv_icmp_lt (tgt := 73) hx hb d_Floats_calculate_66 (by decide) (fun c_4 => ?_) (fun c_4 => ?_)
  · refine lv_iconst (v := (0 : Int32)) hx hb d_Floats_calculate_73 (by decide) ?_
    refine lv_istore (lv' := [(6, .int (0 : Int32)), (0, .int a0), (1, .ref (ad j1)), (2, .long a2), (4, .long a3)]) hx hb d_Floats_calculate_74 hl (by decide) rfl (fun ls hl => ?_)
    refine lv_aload_n hx hb d_Floats_calculate_76 rfl (lv_at hl 2 rfl) ?_
    refine lv_lload_n hx hb d_Floats_calculate_77 rfl (lv_at hl 3 rfl) ?_
    refine vi_ (As := [.long a2]) (rest := []) hq hj1 (c_Form_isNoNumber l A ad j1 hj1 a2) kB_Form_isNoNumber wt_389 ⟨rfl, rfl, Nat.le_of_ble_eq_true rfl, Nat.le_of_ble_eq_true rfl⟩ rfl hl.1 rfl (Nat.le_of_ble_eq_true rfl) d_Floats_calculate_78 ⟨Nat.zero_le _, Nat.zero_le _⟩ ?_
    refine lv_if_ne (tgt := 98) hx hb d_Floats_calculate_81 (by decide) (fun c_5 => ?_) (fun c_5 => ?_)
    · refine lv_aload_n hx hb d_Floats_calculate_98 rfl (lv_at hl 2 rfl) ?_
      refine gf_n hq hj1 wt_732 d_Floats_calculate_99 ?_
      exact rl_ hx hb hr hk (by rw [q_Floats_calculate, if_neg c_1, if_neg c_2, if_neg c_3, if_pos c_4, if_neg c_5]) d_Floats_calculate_102
    · refine lv_iload hx hb d_Floats_calculate_84 (lv_at hl 0 rfl) ?_
      refine lv_if_eq (tgt := 103) hx hb d_Floats_calculate_86 (by decide) (fun _ => ?_) (fun c => absurd (by decide) c)
      refine lv_iload_n hx hb d_Floats_calculate_103 rfl (lv_at hl 1 rfl) ?_
      by_cases c_6 : a0 = (145 : Int32)
      · refine lv_tableIn (tgt := 148) hx hb d_Floats_calculate_104 (by rw [c_6]; decide) (by rw [c_6]; decide) (by rw [c_6]; rfl) (by decide) ?_
        refine lv_aload_n hx hb d_Floats_calculate_148 rfl (lv_at hl 2 rfl) ?_
        refine lv_lload_n hx hb d_Floats_calculate_149 rfl (lv_at hl 3 rfl) ?_
        refine sl_ (As := [.ref (ad j1), .long a2]) (rest := []) hq (c_Floats_root l A ad j1 hj1 a2) kB_Floats_root wt_398 ⟨rfl, rfl, Nat.le_of_ble_eq_true rfl, Nat.le_of_ble_eq_true rfl⟩ rfl hl.1 rfl (Nat.le_of_ble_eq_true rfl) d_Floats_calculate_150 ⟨Nat.zero_le _, Nat.zero_le _⟩ ?_
        exact rl_ hx hb hr hk (by rw [q_Floats_calculate, if_neg c_1, if_neg c_2, if_neg c_3, if_pos c_4, if_pos c_5, if_pos c_6]) d_Floats_calculate_153
      by_cases c_7 : a0 = (146 : Int32)
      · refine lv_tableIn (tgt := 154) hx hb d_Floats_calculate_104 (by rw [c_7]; decide) (by rw [c_7]; decide) (by rw [c_7]; rfl) (by decide) ?_
        refine lv_aload_n hx hb d_Floats_calculate_154 rfl (lv_at hl 2 rfl) ?_
        refine lv_lload_n hx hb d_Floats_calculate_155 rfl (lv_at hl 3 rfl) ?_
        refine lv_lload hx hb d_Floats_calculate_156 (lv_at hl 4 rfl) ?_
        refine sl_ (As := [.ref (ad j1), .long a2, .long a3]) (rest := []) hq (c_Floats_sum l A ad j1 hj1 a2 a3) kB_Floats_sum wt_419 ⟨rfl, rfl, Nat.le_of_ble_eq_true rfl, Nat.le_of_ble_eq_true rfl⟩ rfl hl.1 rfl (Nat.le_of_ble_eq_true rfl) d_Floats_calculate_158 ⟨Nat.zero_le _, Nat.zero_le _⟩ ?_
        exact rl_ hx hb hr hk (by rw [q_Floats_calculate, if_neg c_1, if_neg c_2, if_neg c_3, if_pos c_4, if_pos c_5, if_neg c_6, if_pos c_7]) d_Floats_calculate_161
      by_cases c_8 : a0 = (147 : Int32)
      · refine lv_tableIn (tgt := 162) hx hb d_Floats_calculate_104 (by rw [c_8]; decide) (by rw [c_8]; decide) (by rw [c_8]; rfl) (by decide) ?_
        refine lv_aload_n hx hb d_Floats_calculate_162 rfl (lv_at hl 2 rfl) ?_
        refine lv_lload_n hx hb d_Floats_calculate_163 rfl (lv_at hl 3 rfl) ?_
        refine lv_lload hx hb d_Floats_calculate_164 (lv_at hl 4 rfl) ?_
        refine lv_aload_n hx hb d_Floats_calculate_166 rfl (lv_at hl 2 rfl) ?_
        refine gf_s hq hj1 wt_731 d_Floats_calculate_167 ?_
        refine lv_lxor hx hb d_Floats_calculate_170 ?_
        refine sl_ (As := [.ref (ad j1), .long a2, .long (a3 ^^^ (fm_s j1))]) (rest := []) hq (c_Floats_sum l A ad j1 hj1 a2 (a3 ^^^ (fm_s j1))) kB_Floats_sum wt_419 ⟨rfl, rfl, Nat.le_of_ble_eq_true rfl, Nat.le_of_ble_eq_true rfl⟩ rfl hl.1 rfl (Nat.le_of_ble_eq_true rfl) d_Floats_calculate_171 ⟨Nat.zero_le _, Nat.zero_le _⟩ ?_
        exact rl_ hx hb hr hk (by rw [q_Floats_calculate, if_neg c_1, if_neg c_2, if_neg c_3, if_pos c_4, if_pos c_5, if_neg c_6, if_neg c_7, if_pos c_8]) d_Floats_calculate_174
      by_cases c_9 : a0 = (148 : Int32)
      · refine lv_tableIn (tgt := 175) hx hb d_Floats_calculate_104 (by rw [c_9]; decide) (by rw [c_9]; decide) (by rw [c_9]; rfl) (by decide) ?_
        refine lv_aload_n hx hb d_Floats_calculate_175 rfl (lv_at hl 2 rfl) ?_
        refine lv_lload_n hx hb d_Floats_calculate_176 rfl (lv_at hl 3 rfl) ?_
        refine lv_lload hx hb d_Floats_calculate_177 (lv_at hl 4 rfl) ?_
        refine sl_ (As := [.ref (ad j1), .long a2, .long a3]) (rest := []) hq (c_Floats_product l A ad j1 hj1 a2 a3) kB_Floats_product wt_429 ⟨rfl, rfl, Nat.le_of_ble_eq_true rfl, Nat.le_of_ble_eq_true rfl⟩ rfl hl.1 rfl (Nat.le_of_ble_eq_true rfl) d_Floats_calculate_179 ⟨Nat.zero_le _, Nat.zero_le _⟩ ?_
        exact rl_ hx hb hr hk (by rw [q_Floats_calculate, if_neg c_1, if_neg c_2, if_neg c_3, if_pos c_4, if_pos c_5, if_neg c_6, if_neg c_7, if_neg c_8, if_pos c_9]) d_Floats_calculate_182
      by_cases c_10 : a0 = (149 : Int32)
      · refine lv_tableIn (tgt := 183) hx hb d_Floats_calculate_104 (by rw [c_10]; decide) (by rw [c_10]; decide) (by rw [c_10]; rfl) (by decide) ?_
        refine lv_aload_n hx hb d_Floats_calculate_183 rfl (lv_at hl 2 rfl) ?_
        refine lv_lload_n hx hb d_Floats_calculate_184 rfl (lv_at hl 3 rfl) ?_
        refine lv_lload hx hb d_Floats_calculate_185 (lv_at hl 4 rfl) ?_
        refine sl_ (As := [.ref (ad j1), .long a2, .long a3]) (rest := []) hq (c_Floats_quotient l A ad j1 hj1 a2 a3) kB_Floats_quotient wt_436 ⟨rfl, rfl, Nat.le_of_ble_eq_true rfl, Nat.le_of_ble_eq_true rfl⟩ rfl hl.1 rfl (Nat.le_of_ble_eq_true rfl) d_Floats_calculate_187 ⟨Nat.zero_le _, Nat.zero_le _⟩ ?_
        exact rl_ hx hb hr hk (by rw [q_Floats_calculate, if_neg c_1, if_neg c_2, if_neg c_3, if_pos c_4, if_pos c_5, if_neg c_6, if_neg c_7, if_neg c_8, if_neg c_9, if_pos c_10]) d_Floats_calculate_190
      by_cases c_11 : a0 = (150 : Int32)
      · refine lv_tableIn (tgt := 191) hx hb d_Floats_calculate_104 (by rw [c_11]; decide) (by rw [c_11]; decide) (by rw [c_11]; rfl) (by decide) ?_
        refine lv_aload_n hx hb d_Floats_calculate_191 rfl (lv_at hl 2 rfl) ?_
        refine lv_lload hx hb d_Floats_calculate_192 (lv_at hl 4 rfl) ?_
        refine lv_lload_n hx hb d_Floats_calculate_194 rfl (lv_at hl 3 rfl) ?_
        refine si_ (As := [.ref (ad j1), .long a3, .long a2]) (rest := []) hq (c_Floats_isBelow l A ad j1 hj1 a3 a2) kB_Floats_isBelow wt_442 ⟨rfl, rfl, Nat.le_of_ble_eq_true rfl, Nat.le_of_ble_eq_true rfl⟩ rfl hl.1 rfl (Nat.le_of_ble_eq_true rfl) d_Floats_calculate_195 ⟨Nat.zero_le _, Nat.zero_le _⟩ ?_
        refine lv_if_eq (tgt := 206) hx hb d_Floats_calculate_198 (by decide) (fun c_12 => ?_) (fun c_12 => ?_)
        · refine lv_lload_n hx hb d_Floats_calculate_206 rfl (lv_at hl 3 rfl) ?_
          exact rl_ hx hb hr hk (by rw [q_Floats_calculate, if_neg c_1, if_neg c_2, if_neg c_3, if_pos c_4, if_pos c_5, if_neg c_6, if_neg c_7, if_neg c_8, if_neg c_9, if_neg c_10, if_pos c_11, if_pos c_12]) d_Floats_calculate_207
        · refine lv_lload hx hb d_Floats_calculate_201 (lv_at hl 4 rfl) ?_
          refine lv_goto (tgt := 207) hx hb d_Floats_calculate_203 (by decide) ?_
          exact rl_ hx hb hr hk (by rw [q_Floats_calculate, if_neg c_1, if_neg c_2, if_neg c_3, if_pos c_4, if_pos c_5, if_neg c_6, if_neg c_7, if_neg c_8, if_neg c_9, if_neg c_10, if_pos c_11, if_neg c_12]) d_Floats_calculate_207
      by_cases c_13 : a0 = (151 : Int32)
      · refine lv_tableIn (tgt := 208) hx hb d_Floats_calculate_104 (by rw [c_13]; decide) (by rw [c_13]; decide) (by rw [c_13]; rfl) (by decide) ?_
        refine lv_aload_n hx hb d_Floats_calculate_208 rfl (lv_at hl 2 rfl) ?_
        refine lv_lload_n hx hb d_Floats_calculate_209 rfl (lv_at hl 3 rfl) ?_
        refine lv_lload hx hb d_Floats_calculate_210 (lv_at hl 4 rfl) ?_
        refine si_ (As := [.ref (ad j1), .long a2, .long a3]) (rest := []) hq (c_Floats_isBelow l A ad j1 hj1 a2 a3) kB_Floats_isBelow wt_442 ⟨rfl, rfl, Nat.le_of_ble_eq_true rfl, Nat.le_of_ble_eq_true rfl⟩ rfl hl.1 rfl (Nat.le_of_ble_eq_true rfl) d_Floats_calculate_212 ⟨Nat.zero_le _, Nat.zero_le _⟩ ?_
        refine lv_if_eq (tgt := 223) hx hb d_Floats_calculate_215 (by decide) (fun c_14 => ?_) (fun c_14 => ?_)
        · refine lv_lload_n hx hb d_Floats_calculate_223 rfl (lv_at hl 3 rfl) ?_
          exact rl_ hx hb hr hk (by rw [q_Floats_calculate, if_neg c_1, if_neg c_2, if_neg c_3, if_pos c_4, if_pos c_5, if_neg c_6, if_neg c_7, if_neg c_8, if_neg c_9, if_neg c_10, if_neg c_11, if_pos c_13, if_pos c_14]) d_Floats_calculate_224
        · refine lv_lload hx hb d_Floats_calculate_218 (lv_at hl 4 rfl) ?_
          refine lv_goto (tgt := 224) hx hb d_Floats_calculate_220 (by decide) ?_
          exact rl_ hx hb hr hk (by rw [q_Floats_calculate, if_neg c_1, if_neg c_2, if_neg c_3, if_pos c_4, if_pos c_5, if_neg c_6, if_neg c_7, if_neg c_8, if_neg c_9, if_neg c_10, if_neg c_11, if_pos c_13, if_neg c_14]) d_Floats_calculate_224
      have hsw : a0.toInt < 145 ∨ 151 < a0.toInt := by
        have := lv_neT c_6 (a := 145) (by decide)
        have := lv_neT c_7 (a := 146) (by decide)
        have := lv_neT c_8 (a := 147) (by decide)
        have := lv_neT c_9 (a := 148) (by decide)
        have := lv_neT c_10 (a := 149) (by decide)
        have := lv_neT c_11 (a := 150) (by decide)
        have := lv_neT c_13 (a := 151) (by decide)
        omega
      refine lv_tableOut (tgt := 225) hx hb d_Floats_calculate_104 hsw (by decide) ?_
      refine lv_iload_n hx hb d_Floats_calculate_225 rfl (lv_at hl 1 rfl) ?_
      refine lv_aload_n hx hb d_Floats_calculate_226 rfl (lv_at hl 2 rfl) ?_
      refine lv_lload_n hx hb d_Floats_calculate_227 rfl (lv_at hl 3 rfl) ?_
      refine sl_ (As := [.int a0, .ref (ad j1), .long a2]) (rest := []) hq (c_Steps_toWhole l A ad a0 j1 hj1 a2) kB_Steps_toWhole wt_445 ⟨rfl, rfl, Nat.le_of_ble_eq_true rfl, Nat.le_of_ble_eq_true rfl⟩ rfl hl.1 rfl (Nat.le_of_ble_eq_true rfl) d_Floats_calculate_228 ⟨Nat.zero_le _, Nat.zero_le _⟩ ?_
      exact rl_ hx hb hr hk (by rw [q_Floats_calculate, if_neg c_1, if_neg c_2, if_neg c_3, if_pos c_4, if_pos c_5, if_neg c_6, if_neg c_7, if_neg c_8, if_neg c_9, if_neg c_10, if_neg c_11, if_neg c_13]) d_Floats_calculate_231
  · refine lv_iconst (v := (1 : Int32)) hx hb d_Floats_calculate_69 (by decide) ?_
    refine lv_goto (tgt := 74) hx hb d_Floats_calculate_70 (by decide) ?_
    refine lv_istore (lv' := [(6, .int (1 : Int32)), (0, .int a0), (1, .ref (ad j1)), (2, .long a2), (4, .long a3)]) hx hb d_Floats_calculate_74 hl (by decide) rfl (fun ls hl => ?_)
    refine lv_aload_n hx hb d_Floats_calculate_76 rfl (lv_at hl 2 rfl) ?_
    refine lv_lload_n hx hb d_Floats_calculate_77 rfl (lv_at hl 3 rfl) ?_
    refine vi_ (As := [.long a2]) (rest := []) hq hj1 (c_Form_isNoNumber l A ad j1 hj1 a2) kB_Form_isNoNumber wt_389 ⟨rfl, rfl, Nat.le_of_ble_eq_true rfl, Nat.le_of_ble_eq_true rfl⟩ rfl hl.1 rfl (Nat.le_of_ble_eq_true rfl) d_Floats_calculate_78 ⟨Nat.zero_le _, Nat.zero_le _⟩ ?_
    refine lv_if_ne (tgt := 98) hx hb d_Floats_calculate_81 (by decide) (fun c_15 => ?_) (fun c_15 => ?_)
    · refine lv_aload_n hx hb d_Floats_calculate_98 rfl (lv_at hl 2 rfl) ?_
      refine gf_n hq hj1 wt_732 d_Floats_calculate_99 ?_
      exact rl_ hx hb hr hk (by rw [q_Floats_calculate, if_neg c_1, if_neg c_2, if_neg c_3, if_neg c_4, if_neg c_15]) d_Floats_calculate_102
    · refine lv_iload hx hb d_Floats_calculate_84 (lv_at hl 0 rfl) ?_
      refine lv_if_eq (tgt := 103) hx hb d_Floats_calculate_86 (by decide) (fun c => absurd c (by decide)) (fun _ => ?_)
      refine lv_aload_n hx hb d_Floats_calculate_89 rfl (lv_at hl 2 rfl) ?_
      refine lv_lload hx hb d_Floats_calculate_90 (lv_at hl 4 rfl) ?_
      refine vi_ (As := [.long a3]) (rest := []) hq hj1 (c_Form_isNoNumber l A ad j1 hj1 a3) kB_Form_isNoNumber wt_389 ⟨rfl, rfl, Nat.le_of_ble_eq_true rfl, Nat.le_of_ble_eq_true rfl⟩ rfl hl.1 rfl (Nat.le_of_ble_eq_true rfl) d_Floats_calculate_92 ⟨Nat.zero_le _, Nat.zero_le _⟩ ?_
      refine lv_if_eq (tgt := 103) hx hb d_Floats_calculate_95 (by decide) (fun c_16 => ?_) (fun c_16 => ?_)
      · refine lv_iload_n hx hb d_Floats_calculate_103 rfl (lv_at hl 1 rfl) ?_
        by_cases c_17 : a0 = (145 : Int32)
        · refine lv_tableIn (tgt := 148) hx hb d_Floats_calculate_104 (by rw [c_17]; decide) (by rw [c_17]; decide) (by rw [c_17]; rfl) (by decide) ?_
          refine lv_aload_n hx hb d_Floats_calculate_148 rfl (lv_at hl 2 rfl) ?_
          refine lv_lload_n hx hb d_Floats_calculate_149 rfl (lv_at hl 3 rfl) ?_
          refine sl_ (As := [.ref (ad j1), .long a2]) (rest := []) hq (c_Floats_root l A ad j1 hj1 a2) kB_Floats_root wt_398 ⟨rfl, rfl, Nat.le_of_ble_eq_true rfl, Nat.le_of_ble_eq_true rfl⟩ rfl hl.1 rfl (Nat.le_of_ble_eq_true rfl) d_Floats_calculate_150 ⟨Nat.zero_le _, Nat.zero_le _⟩ ?_
          exact rl_ hx hb hr hk (by rw [q_Floats_calculate, if_neg c_1, if_neg c_2, if_neg c_3, if_neg c_4, if_pos c_15, if_pos c_16, if_pos c_17]) d_Floats_calculate_153
        by_cases c_18 : a0 = (146 : Int32)
        · refine lv_tableIn (tgt := 154) hx hb d_Floats_calculate_104 (by rw [c_18]; decide) (by rw [c_18]; decide) (by rw [c_18]; rfl) (by decide) ?_
          refine lv_aload_n hx hb d_Floats_calculate_154 rfl (lv_at hl 2 rfl) ?_
          refine lv_lload_n hx hb d_Floats_calculate_155 rfl (lv_at hl 3 rfl) ?_
          refine lv_lload hx hb d_Floats_calculate_156 (lv_at hl 4 rfl) ?_
          refine sl_ (As := [.ref (ad j1), .long a2, .long a3]) (rest := []) hq (c_Floats_sum l A ad j1 hj1 a2 a3) kB_Floats_sum wt_419 ⟨rfl, rfl, Nat.le_of_ble_eq_true rfl, Nat.le_of_ble_eq_true rfl⟩ rfl hl.1 rfl (Nat.le_of_ble_eq_true rfl) d_Floats_calculate_158 ⟨Nat.zero_le _, Nat.zero_le _⟩ ?_
          exact rl_ hx hb hr hk (by rw [q_Floats_calculate, if_neg c_1, if_neg c_2, if_neg c_3, if_neg c_4, if_pos c_15, if_pos c_16, if_neg c_17, if_pos c_18]) d_Floats_calculate_161
        by_cases c_19 : a0 = (147 : Int32)
        · refine lv_tableIn (tgt := 162) hx hb d_Floats_calculate_104 (by rw [c_19]; decide) (by rw [c_19]; decide) (by rw [c_19]; rfl) (by decide) ?_
          refine lv_aload_n hx hb d_Floats_calculate_162 rfl (lv_at hl 2 rfl) ?_
          refine lv_lload_n hx hb d_Floats_calculate_163 rfl (lv_at hl 3 rfl) ?_
          refine lv_lload hx hb d_Floats_calculate_164 (lv_at hl 4 rfl) ?_
          refine lv_aload_n hx hb d_Floats_calculate_166 rfl (lv_at hl 2 rfl) ?_
          refine gf_s hq hj1 wt_731 d_Floats_calculate_167 ?_
          refine lv_lxor hx hb d_Floats_calculate_170 ?_
          refine sl_ (As := [.ref (ad j1), .long a2, .long (a3 ^^^ (fm_s j1))]) (rest := []) hq (c_Floats_sum l A ad j1 hj1 a2 (a3 ^^^ (fm_s j1))) kB_Floats_sum wt_419 ⟨rfl, rfl, Nat.le_of_ble_eq_true rfl, Nat.le_of_ble_eq_true rfl⟩ rfl hl.1 rfl (Nat.le_of_ble_eq_true rfl) d_Floats_calculate_171 ⟨Nat.zero_le _, Nat.zero_le _⟩ ?_
          exact rl_ hx hb hr hk (by rw [q_Floats_calculate, if_neg c_1, if_neg c_2, if_neg c_3, if_neg c_4, if_pos c_15, if_pos c_16, if_neg c_17, if_neg c_18, if_pos c_19]) d_Floats_calculate_174
        by_cases c_20 : a0 = (148 : Int32)
        · refine lv_tableIn (tgt := 175) hx hb d_Floats_calculate_104 (by rw [c_20]; decide) (by rw [c_20]; decide) (by rw [c_20]; rfl) (by decide) ?_
          refine lv_aload_n hx hb d_Floats_calculate_175 rfl (lv_at hl 2 rfl) ?_
          refine lv_lload_n hx hb d_Floats_calculate_176 rfl (lv_at hl 3 rfl) ?_
          refine lv_lload hx hb d_Floats_calculate_177 (lv_at hl 4 rfl) ?_
          refine sl_ (As := [.ref (ad j1), .long a2, .long a3]) (rest := []) hq (c_Floats_product l A ad j1 hj1 a2 a3) kB_Floats_product wt_429 ⟨rfl, rfl, Nat.le_of_ble_eq_true rfl, Nat.le_of_ble_eq_true rfl⟩ rfl hl.1 rfl (Nat.le_of_ble_eq_true rfl) d_Floats_calculate_179 ⟨Nat.zero_le _, Nat.zero_le _⟩ ?_
          exact rl_ hx hb hr hk (by rw [q_Floats_calculate, if_neg c_1, if_neg c_2, if_neg c_3, if_neg c_4, if_pos c_15, if_pos c_16, if_neg c_17, if_neg c_18, if_neg c_19, if_pos c_20]) d_Floats_calculate_182
        by_cases c_21 : a0 = (149 : Int32)
        · refine lv_tableIn (tgt := 183) hx hb d_Floats_calculate_104 (by rw [c_21]; decide) (by rw [c_21]; decide) (by rw [c_21]; rfl) (by decide) ?_
          refine lv_aload_n hx hb d_Floats_calculate_183 rfl (lv_at hl 2 rfl) ?_
          refine lv_lload_n hx hb d_Floats_calculate_184 rfl (lv_at hl 3 rfl) ?_
          refine lv_lload hx hb d_Floats_calculate_185 (lv_at hl 4 rfl) ?_
          refine sl_ (As := [.ref (ad j1), .long a2, .long a3]) (rest := []) hq (c_Floats_quotient l A ad j1 hj1 a2 a3) kB_Floats_quotient wt_436 ⟨rfl, rfl, Nat.le_of_ble_eq_true rfl, Nat.le_of_ble_eq_true rfl⟩ rfl hl.1 rfl (Nat.le_of_ble_eq_true rfl) d_Floats_calculate_187 ⟨Nat.zero_le _, Nat.zero_le _⟩ ?_
          exact rl_ hx hb hr hk (by rw [q_Floats_calculate, if_neg c_1, if_neg c_2, if_neg c_3, if_neg c_4, if_pos c_15, if_pos c_16, if_neg c_17, if_neg c_18, if_neg c_19, if_neg c_20, if_pos c_21]) d_Floats_calculate_190
        by_cases c_22 : a0 = (150 : Int32)
        · refine lv_tableIn (tgt := 191) hx hb d_Floats_calculate_104 (by rw [c_22]; decide) (by rw [c_22]; decide) (by rw [c_22]; rfl) (by decide) ?_
          refine lv_aload_n hx hb d_Floats_calculate_191 rfl (lv_at hl 2 rfl) ?_
          refine lv_lload hx hb d_Floats_calculate_192 (lv_at hl 4 rfl) ?_
          refine lv_lload_n hx hb d_Floats_calculate_194 rfl (lv_at hl 3 rfl) ?_
          refine si_ (As := [.ref (ad j1), .long a3, .long a2]) (rest := []) hq (c_Floats_isBelow l A ad j1 hj1 a3 a2) kB_Floats_isBelow wt_442 ⟨rfl, rfl, Nat.le_of_ble_eq_true rfl, Nat.le_of_ble_eq_true rfl⟩ rfl hl.1 rfl (Nat.le_of_ble_eq_true rfl) d_Floats_calculate_195 ⟨Nat.zero_le _, Nat.zero_le _⟩ ?_
          refine lv_if_eq (tgt := 206) hx hb d_Floats_calculate_198 (by decide) (fun c_23 => ?_) (fun c_23 => ?_)
          · refine lv_lload_n hx hb d_Floats_calculate_206 rfl (lv_at hl 3 rfl) ?_
            exact rl_ hx hb hr hk (by rw [q_Floats_calculate, if_neg c_1, if_neg c_2, if_neg c_3, if_neg c_4, if_pos c_15, if_pos c_16, if_neg c_17, if_neg c_18, if_neg c_19, if_neg c_20, if_neg c_21, if_pos c_22, if_pos c_23]) d_Floats_calculate_207
          · refine lv_lload hx hb d_Floats_calculate_201 (lv_at hl 4 rfl) ?_
            refine lv_goto (tgt := 207) hx hb d_Floats_calculate_203 (by decide) ?_
            exact rl_ hx hb hr hk (by rw [q_Floats_calculate, if_neg c_1, if_neg c_2, if_neg c_3, if_neg c_4, if_pos c_15, if_pos c_16, if_neg c_17, if_neg c_18, if_neg c_19, if_neg c_20, if_neg c_21, if_pos c_22, if_neg c_23]) d_Floats_calculate_207
        by_cases c_24 : a0 = (151 : Int32)
        · refine lv_tableIn (tgt := 208) hx hb d_Floats_calculate_104 (by rw [c_24]; decide) (by rw [c_24]; decide) (by rw [c_24]; rfl) (by decide) ?_
          refine lv_aload_n hx hb d_Floats_calculate_208 rfl (lv_at hl 2 rfl) ?_
          refine lv_lload_n hx hb d_Floats_calculate_209 rfl (lv_at hl 3 rfl) ?_
          refine lv_lload hx hb d_Floats_calculate_210 (lv_at hl 4 rfl) ?_
          refine si_ (As := [.ref (ad j1), .long a2, .long a3]) (rest := []) hq (c_Floats_isBelow l A ad j1 hj1 a2 a3) kB_Floats_isBelow wt_442 ⟨rfl, rfl, Nat.le_of_ble_eq_true rfl, Nat.le_of_ble_eq_true rfl⟩ rfl hl.1 rfl (Nat.le_of_ble_eq_true rfl) d_Floats_calculate_212 ⟨Nat.zero_le _, Nat.zero_le _⟩ ?_
          refine lv_if_eq (tgt := 223) hx hb d_Floats_calculate_215 (by decide) (fun c_25 => ?_) (fun c_25 => ?_)
          · refine lv_lload_n hx hb d_Floats_calculate_223 rfl (lv_at hl 3 rfl) ?_
            exact rl_ hx hb hr hk (by rw [q_Floats_calculate, if_neg c_1, if_neg c_2, if_neg c_3, if_neg c_4, if_pos c_15, if_pos c_16, if_neg c_17, if_neg c_18, if_neg c_19, if_neg c_20, if_neg c_21, if_neg c_22, if_pos c_24, if_pos c_25]) d_Floats_calculate_224
          · refine lv_lload hx hb d_Floats_calculate_218 (lv_at hl 4 rfl) ?_
            refine lv_goto (tgt := 224) hx hb d_Floats_calculate_220 (by decide) ?_
            exact rl_ hx hb hr hk (by rw [q_Floats_calculate, if_neg c_1, if_neg c_2, if_neg c_3, if_neg c_4, if_pos c_15, if_pos c_16, if_neg c_17, if_neg c_18, if_neg c_19, if_neg c_20, if_neg c_21, if_neg c_22, if_pos c_24, if_neg c_25]) d_Floats_calculate_224
        have hsw : a0.toInt < 145 ∨ 151 < a0.toInt := by
          have := lv_neT c_17 (a := 145) (by decide)
          have := lv_neT c_18 (a := 146) (by decide)
          have := lv_neT c_19 (a := 147) (by decide)
          have := lv_neT c_20 (a := 148) (by decide)
          have := lv_neT c_21 (a := 149) (by decide)
          have := lv_neT c_22 (a := 150) (by decide)
          have := lv_neT c_24 (a := 151) (by decide)
          omega
        refine lv_tableOut (tgt := 225) hx hb d_Floats_calculate_104 hsw (by decide) ?_
        refine lv_iload_n hx hb d_Floats_calculate_225 rfl (lv_at hl 1 rfl) ?_
        refine lv_aload_n hx hb d_Floats_calculate_226 rfl (lv_at hl 2 rfl) ?_
        refine lv_lload_n hx hb d_Floats_calculate_227 rfl (lv_at hl 3 rfl) ?_
        refine sl_ (As := [.int a0, .ref (ad j1), .long a2]) (rest := []) hq (c_Steps_toWhole l A ad a0 j1 hj1 a2) kB_Steps_toWhole wt_445 ⟨rfl, rfl, Nat.le_of_ble_eq_true rfl, Nat.le_of_ble_eq_true rfl⟩ rfl hl.1 rfl (Nat.le_of_ble_eq_true rfl) d_Floats_calculate_228 ⟨Nat.zero_le _, Nat.zero_le _⟩ ?_
        exact rl_ hx hb hr hk (by rw [q_Floats_calculate, if_neg c_1, if_neg c_2, if_neg c_3, if_neg c_4, if_pos c_15, if_pos c_16, if_neg c_17, if_neg c_18, if_neg c_19, if_neg c_20, if_neg c_21, if_neg c_22, if_neg c_24]) d_Floats_calculate_231
      · refine lv_aload_n hx hb d_Floats_calculate_98 rfl (lv_at hl 2 rfl) ?_
        refine gf_n hq hj1 wt_732 d_Floats_calculate_99 ?_
        exact rl_ hx hb hr hk (by rw [q_Floats_calculate, if_neg c_1, if_neg c_2, if_neg c_3, if_neg c_4, if_pos c_15, if_neg c_16]) d_Floats_calculate_102
