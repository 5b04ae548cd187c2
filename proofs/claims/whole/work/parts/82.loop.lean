set_option maxHeartbeats 4000000 in
theorem law_loop {p : Program} {e : Env} {s : State} {m : MethodId} {below : List Frame} {meth : Method} {c : Code} (l : Launch) (hlt : l.stackTraces = false) {b L : Nat} {xs : Nat → Int32} {ad : Nat → Nat} {D : va_G} {cB cJ : ClassId} {x w o r : Nat} (hq : FX p s m #[Value.ref b] c (fun q => s.heap.size ≤ q) ad b_Law 8 nLw) (hN : NW ad s) (hC : CW s) (hK : va_K D clR (tyR cB cJ) s) (hA9 : s.heap.size ≤ x ∧ s.heap.size ≤ w ∧ s.heap.size ≤ o ∧ s.heap.size ≤ r) (hd : n4_ x w o r) (hX : va_X b L xs s s.heap) (hbl : b < s.heap.size) (hL : L ≤ 3072) (hr : meth.sig.returnType = ret) (hlocks : meth.locks = false) :
    ∀ (n j : Nat), L ≤ 6 * j + n → 6 * j ≤ L → ∀ (la : Int64) (cd : Int32) (fs : List Value) (f : Nat → Int32) (g : Nat → Int64) (H : Heap) (locs : List Loc) (ls : Array Slot), SJ r cd la fs f → va_P D clR (w4_ x w o r cB cJ la g fs f) H → va_S (fun q => s.heap.size ≤ q) s.heap H locs → lv_has ls 8 [(4, .int (nI (6 * j))), (0, .ref b), (1, .ref x), (2, .ref o), (3, .ref w)] → W p l e room_1 s m #[Value.ref b] below meth c H locs (4 + j) (4414 + 6 * j) (lw_Z below #[Value.ref b] s) (F0 m 23 ls []) := by
  have hx := hq.1
  have hb := hq.2.1
  have hbA : ¬ (fun q : Nat => s.heap.size ≤ q) b := Nat.not_le.mpr hbl
  have out : ∀ (j : Nat), L < 6 * j + 6 → 6 * j ≤ L → ∀ (H : Heap) (locs : List Loc) (ls : Array Slot), va_S (fun q => s.heap.size ≤ q) s.heap H locs → lv_has ls 8 [(4, .int (nI (6 * j))), (0, .ref b), (1, .ref x), (2, .ref o), (3, .ref w)] → W p l e room_1 s m #[Value.ref b] below meth c H locs (4 + j) (4414 + 6 * j) (lw_Z below #[Value.ref b] s) (F0 m 23 ls []) := by
    intro j h1 h2 H locs ls hS hl
    refine lv_iload hx hb d_Law_23 (lv_at hl 0 rfl) ?_
    refine lv_aload_n hx hb d_Law_25 rfl (lv_at hl 1 rfl) ?_
    refine va_slen hx hb hX hbl hbA hS d_Law_26 ?_
    refine lv_bipush (v := (6 : Int32)) hx hb d_Law_27 (by decide) ?_
    refine lv_isub hx hb d_Law_29 ?_
    refine lv_icmp_gt (tgt := 474) hx hb d_Law_30 (by decide) (fun _ => ?_) (fun c9 => absurd ?_ c9)
    · refine lv_iconst (v := (1 : Int32)) hx hb d_Law_474 (by decide) ?_
      refine va_forget (fun q hq => hS.2.2 q hq) ?_
      refine W.widen (k := 1033) (n := 12636) (by omega) (by omega) ?_
      exact lw_ret hx hb hr hlocks d_Law_475
    · show Int32.ofNat L - 6 < nI (6 * j)
      rw [show Int32.ofNat L - 6 = zI ((L : Int) - 6) by rw [← zI_sub, zI_n]; rfl, ← zI_n, zI_lt ⟨by omega, by omega⟩ ⟨by omega, by omega⟩]
      omega
  intro n
  induction n with
  | zero => exact fun j h1 h2 la cd fs f g H locs ls hJ hP hS hl => out j (by omega) h2 H locs ls hS hl
  | succ n ih =>
    intro j h1 h2 la cd fs f g H locs ls hJ hP hS hl
    by_cases hlt9 : L < 6 * j + 6
    · exact out j hlt9 h2 H locs ls hS hl
    refine lv_iload hx hb d_Law_23 (lv_at hl 0 rfl) ?_
    refine lv_aload_n hx hb d_Law_25 rfl (lv_at hl 1 rfl) ?_
    refine va_slen hx hb hX hbl hbA hS d_Law_26 ?_
    refine lv_bipush (v := (6 : Int32)) hx hb d_Law_27 (by decide) ?_
    refine lv_isub hx hb d_Law_29 ?_
    refine lv_icmp_gt (tgt := 474) hx hb d_Law_30 (by decide) (fun c9 => absurd c9 ?_) (fun _ => ?_)
    · show ¬ Int32.ofNat L - 6 < nI (6 * j)
      rw [show Int32.ofNat L - 6 = zI ((L : Int) - 6) by rw [← zI_sub, zI_n]; rfl, ← zI_n, zI_lt ⟨by omega, by omega⟩ ⟨by omega, by omega⟩]
      omega
    refine law_turn l hlt hq hN hC hK hA9 hd hX hbl hbA hL (j := j) (by omega) ⟨by show 4 + j + 1 ≤ 1033; omega, by show 4414 + 6 * j + 6 ≤ 12636; omega⟩ ?_ la cd fs f g H locs ls hJ hP hS hl
    intro la cd fs f g H locs ls hJ hP hS hl
    refine lv_iinc (v := nI (6 * (j + 1))) (lv' := [(4, .int (nI (6 * (j + 1)))), (0, .ref b), (1, .ref x), (2, .ref o), (3, .ref w)]) hx hb d_Law_468 hl (k := 0) rfl (by rw [show Int32.ofInt 6 = nI 6 from rfl, nI_add]; rfl) (by decide) rfl (fun ls hl => ?_)
    refine lv_goto (tgt := 23) hx hb d_Law_471 (by decide) ?_
    exact ih (j + 1) (by omega) (by omega) la cd fs f g H locs ls hJ hP hS hl
