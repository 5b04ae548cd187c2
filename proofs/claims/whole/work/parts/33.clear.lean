theorem kB_Ref_clear : RB y_Ref_clear b_Ref_clear 2 none 0 := ⟨wt_610, wt_609, wt_13, wt_36, by decide +kernel⟩
set_option maxHeartbeats 4000000 in
set_option maxRecDepth 100000 in
theorem lp_Ref_clear {p : Program} {l : Launch} {e : Env} {s : State} {m : MethodId} {args : Array Value} {below : List Frame} {meth : Method} {c : Code} {A : Nat → Prop} {ad : Nat → Nat} {D : va_G} {cB cJ : ClassId} {o r : Nat} (hq : FR p s m args c A ad D cB cJ b_Ref_clear 2 y_Ref_clear.cls) (hne : o ≠ r) (hA : ∀ q, rA o r q → A q) (hr : meth.sig.returnType = none) (hk : meth.locks = false) (cd : Int32) (la : Int64) (re wi fr bi mi : Int32) (am : Int64) (we : Int32) (a b : Nat) (hb4 : b < 4400) (k : Option Value → List Value → (Nat → Int32) → Prop) :
    ∀ (n j : Nat) (f : Nat → Int32) (H : Heap) (locs : List Loc) (ls : Array Slot), b + 1 - j = n → j ≤ 4400 → lv_has ls 2 [(1, .int (nI j)), (0, .ref o)] → va_P D clR (rw_ o r cB (rf_ cd la r (nI a) (nI b) re wi fr bi mi am we) f) H → va_S (rA o r) s.heap H locs → (∀ f' : Nat → Int32, (∀ q, f' q = if j ≤ q ∧ q ≤ b then 0 else f q) → k none (rf_ cd la r (nI 4400) 0 0 wi fr bi mi am we) f') →
      W p l e ({ frames := 0, cells := 0, slots := 0, locals := 0 } : Room) s m args below meth c H locs 0 0 (MQ below (QP D cB o r k) args s 0 0 (rA o r)) (F0 m 5 ls []) := by
  have hx := hq.1
  have hb := hq.2.1
  have hts := hq.2.2.2.2.1
  intro n
  induction n with
  | zero =>
    intro j f H locs ls hn hj hl hP hS hkk
    refine lv_iload_n hx hb d_Ref_clear_5 rfl (lv_at hl 0 rfl) ?_
    refine lv_aload_n hx hb d_Ref_clear_6 rfl (lv_at hl 1 rfl) ?_
    refine rg_ 4 hq hP (by decide) wt_488 rfl rfl d_Ref_clear_7 ?_
    refine lv_icmp_gt (tgt := 26) hx hb d_Ref_clear_10 (by decide) (fun _ => ?_) (fun c9 => absurd (nI_lt (show b < j by omega) (by omega)) c9)
    refine lv_aload_n hx hb d_Ref_clear_26 rfl (lv_at hl 1 rfl) ?_
    refine lv_aload_n hx hb d_Ref_clear_27 rfl (lv_at hl 1 rfl) ?_
    refine rg_ 2 hq hP (by decide) wt_486 rfl rfl d_Ref_clear_28 ?_
    refine rl_n hq hP d_Ref_clear_31 ?_
    refine rp_ 3 (ty := tR 3) hq hne hP hS (by decide) wt_487 rfl rfl rfl rfl rfl (Nat.le_of_ble_eq_true rfl) d_Ref_clear_32 (fun H locs hP hS => ?_)
    have hP : va_P D clR (rw_ o r cB (rf_ cd la r (nI 4400) (nI b) re wi fr bi mi am we) f) H := hP
    refine lv_aload_n hx hb d_Ref_clear_35 rfl (lv_at hl 1 rfl) ?_
    refine lv_iconst (v := (0 : Int32)) hx hb d_Ref_clear_36 (by decide) ?_
    refine rp_ 4 (ty := tR 4) hq hne hP hS (by decide) wt_488 rfl rfl rfl rfl rfl (Nat.le_of_ble_eq_true rfl) d_Ref_clear_37 (fun H locs hP hS => ?_)
    have hP : va_P D clR (rw_ o r cB (rf_ cd la r (nI 4400) (0 : Int32) re wi fr bi mi am we) f) H := hP
    refine lv_aload_n hx hb d_Ref_clear_40 rfl (lv_at hl 1 rfl) ?_
    refine lv_iconst (v := (0 : Int32)) hx hb d_Ref_clear_41 (by decide) ?_
    refine rp_ 5 (ty := tR 5) hq hne hP hS (by decide) wt_489 rfl rfl rfl rfl rfl (Nat.le_of_ble_eq_true rfl) d_Ref_clear_42 (fun H locs hP hS => ?_)
    have hP : va_P D clR (rw_ o r cB (rf_ cd la r (nI 4400) (0 : Int32) (0 : Int32) wi fr bi mi am we) f) H := hP
    exact qr_v hq hr hk hP hS (hkk f (fun q => by rw [if_neg (by omega)])) d_Ref_clear_45
  | succ n ih =>
    intro j f H locs ls hn hj hl hP hS hkk
    refine lv_iload_n hx hb d_Ref_clear_5 rfl (lv_at hl 0 rfl) ?_
    refine lv_aload_n hx hb d_Ref_clear_6 rfl (lv_at hl 1 rfl) ?_
    refine rg_ 4 hq hP (by decide) wt_488 rfl rfl d_Ref_clear_7 ?_
    refine lv_icmp_gt (tgt := 26) hx hb d_Ref_clear_10 (by decide) (fun c9 => absurd c9 (nI_nlt (show j ≤ b by omega) (by omega))) (fun _ => ?_)
    refine lv_aload_n hx hb d_Ref_clear_13 rfl (lv_at hl 1 rfl) ?_
    refine rg_ 2 hq hP (by decide) wt_486 rfl rfl d_Ref_clear_14 ?_
    refine lv_iload_n hx hb d_Ref_clear_17 rfl (lv_at hl 0 rfl) ?_
    refine lv_iconst (v := (0 : Int32)) hx hb d_Ref_clear_18 (by decide) ?_
    refine rs_ (j := j) hq hne hP hS (show j < 4400 by omega) d_Ref_clear_19 (fun H locs hP hS => ?_)
    have hP : va_P D clR (rw_ o r cB (rf_ cd la r (nI a) (nI b) re wi fr bi mi am we) (upd f j (vp_nar .byte (0 : Int32)))) H := hP
    refine lv_iinc (v := nI (j + 1)) (lv' := [(1, .int (nI (j + 1))), (0, .ref o)]) hx hb d_Ref_clear_20 hl (k := 0) rfl (nI_1 j) (by decide) rfl (fun ls hl => ?_)
    refine lv_goto (tgt := 5) hx hb d_Ref_clear_23 (by decide) ?_
    refine ih (j + 1) _ H locs ls (by omega) (by omega) hl hP hS (fun f' hf' => hkk f' (fun q => ?_))
    rw [hf' q]
    by_cases e1 : q = j
    · subst e1; rw [if_neg (by omega), if_pos (by omega), pk_us]; rfl
    · by_cases e2 : j ≤ q ∧ q ≤ b
      · rw [if_pos (by omega), if_pos e2]
      · rw [if_neg (by omega), if_neg e2, pk_un e1]
set_option maxHeartbeats 4000000 in
set_option maxRecDepth 100000 in
theorem c_Ref_clear (l : Launch) (A : Nat → Prop) (ad : Nat → Nat) (D : va_G) (cB cJ : ClassId) (o r : Nat) (hne : o ≠ r) (hA : ∀ q, rA o r q → A q) (cd : Int32) (la : Int64) (lo hi re wi fr bi mi : Int32) (am : Int64) (we : Int32) (f : Nat → Int32) (N : Nat) (hf : RowIs f N) (hI : RI lo hi N) : Met l y_Ref_clear (Cond.code y_Ref_clear b_Ref_clear 2 none :: BT) ({ frames := 0, cells := 0, slots := 0, locals := 0 } : Room) (PR A ad D cB cJ o r (rf_ cd la r lo hi re wi fr bi mi am we) f []) (QP D cB o r (fun v fs' f' => v = none ∧ fs' = (rf_ cd la r (nI 4400) 0 0 wi fr bi mi am we) ∧ RowIs f' 0)) 0 0 (rA o r) := by
  obtain ⟨a, b, rfl, rfl, ha, hb4, h1, h2⟩ := hI
  refine pr_ (by decide) (Nat.le_of_ble_eq_true rfl) ?_
  intro p e s m below meth c hq hP hS hr hk ls hl
  have hx := hq.1
  have hb := hq.2.1
  have hts := hq.2.2.2.2.1
  have hl : lv_has ls 2 [(0, .ref o)] := hl
  refine lv_aload_n hx hb d_Ref_clear_0 rfl (lv_at hl 0 rfl) ?_
  refine rg_ 3 hq hP (by decide) wt_487 rfl rfl d_Ref_clear_1 ?_
  refine lv_istore_n (lv' := [(1, .int (nI a)), (0, .ref o)]) hx hb d_Ref_clear_4 rfl hl (by decide) rfl (fun ls hl => ?_)
  refine lp_Ref_clear hq hne hA hr hk cd la re wi fr bi mi am we a b hb4 _ (b + 1 - a) a f s.heap [] ls rfl ha hl hP hS (fun f' hf' => ⟨rfl, rfl, fun q hq9 => ?_⟩)
  rw [hf' q, Nat.zero_div, Nat.zero_mod]
  by_cases e2 : a ≤ q ∧ q ≤ b
  · rw [if_pos e2]; rfl
  · rw [if_neg e2, hf q hq9]
    rcases Nat.lt_or_ge q a with z | z
    · rw [bit_lo h1 z]
    · rw [bit_hi h2 (show b < q by omega)]
