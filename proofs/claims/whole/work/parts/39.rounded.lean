theorem kB_Ref_rounded : RB y_Ref_rounded b_Ref_rounded 10 (some .long) 1 := ⟨wt_622, wt_621, wt_16, wt_36, by decide +kernel⟩
def q_Rt (wi : Int32) (fr : Int32) (bi : Int32) (cut : Int32) (least : Int32) (kept : Int64) (a0 : Int32) : Int64 :=
  if (shr_ kept fr) = (2 : Int64) then
    if (shr_ (shr_ kept (1 : Int32)) fr) = (0 : Int64) then
      (q_Ref_signed wi (shr_ kept (1 : Int32)) a0)
    else
      if (((cut - least) + (1 : Int32)) + (1 : Int32)) ≤ ((2 : Int32) * bi) then
        (q_Ref_signed wi ((shl_ (Int32.toInt64 (((cut - least) + (1 : Int32)) + (1 : Int32))) fr) ||| ((shr_ kept (1 : Int32)) &&& ((shl_ (1 : Int64) fr) - (1 : Int64)))) a0)
      else
        (q_Ref_infinite wi fr bi a0)
  else
    if (shr_ kept fr) = (0 : Int64) then
      (q_Ref_signed wi kept a0)
    else
      if ((cut - least) + (1 : Int32)) ≤ ((2 : Int32) * bi) then
        (q_Ref_signed wi ((shl_ (Int32.toInt64 ((cut - least) + (1 : Int32))) fr) ||| (kept &&& ((shl_ (1 : Int64) fr) - (1 : Int64)))) a0)
      else
        (q_Ref_infinite wi fr bi a0)
set_option maxHeartbeats 4000000 in
set_option maxRecDepth 100000 in
theorem tl_Rt {p : Program} {l : Launch} {e : Env} {s : State} {m : MethodId} {args : Array Value} {below : List Frame} {meth : Method} {c : Code} {A : Nat → Prop} {ad : Nat → Nat} {D : va_G} {cB cJ : ClassId} {o r : Nat} (hq : FR p s m args c A ad D cB cJ b_Ref_rounded 10 y_Ref_rounded.cls) (hne : o ≠ r) (hA : ∀ q, rA o r q → A q) (hr : meth.sig.returnType = (some .long)) (hk : meth.locks = false) (cd : Int32) (la : Int64) (lo : Int32) (hi : Int32) (re : Int32) (wi : Int32) (fr : Int32) (bi : Int32) (mi : Int32) (am : Int64) (we : Int32) (f : Nat → Int32) (cut : Int32) (least : Int32) (kept : Int64) (a0 : Int32) (w : Int64) (hw : w = q_Rt wi fr bi cut least kept a0) (ls : Array Slot) (H : Heap) (locs : List Loc) (hl : lv_has ls 10 [(4, .int cut), (3, .int least), (5, .long kept), (1, .int a0), (0, .ref o)]) (hP : va_P D clR (rw_ o r cB (rf_ cd la r lo hi re wi fr bi mi am we) f) H) (hS : va_S (rA o r) s.heap H locs) :
    W p l e ({ frames := 2, cells := 0, slots := 0, locals := 44 } : Room) s m args below meth c H locs 0 0 (MQ below (QRl D cB o r w (rf_ cd la r lo hi re wi fr bi mi am we) f) args s 0 0 (rA o r)) (F0 m 171 ls []) := by
  have hx := hq.1
  have hb := hq.2.1
  have hts := hq.2.2.2.2.1
  refine lv_iload hx hb d_Ref_rounded_171 (lv_at hl 0 rfl) ?_
  refine lv_iload_n hx hb d_Ref_rounded_173 rfl (lv_at hl 1 rfl) ?_
  refine lv_isub hx hb d_Ref_rounded_174 ?_
  refine lv_istore (lv' := [(9, .int (cut - least)), (4, .int cut), (3, .int least), (5, .long kept), (1, .int a0), (0, .ref o)]) hx hb d_Ref_rounded_175 hl (by decide) rfl (fun ls hl => ?_)
  refine lv_lload hx hb d_Ref_rounded_177 (lv_at hl 3 rfl) ?_
  refine lv_aload_n hx hb d_Ref_rounded_179 rfl (lv_at hl 5 rfl) ?_
  refine rg_ 7 hq hP (by decide) wt_491 rfl rfl d_Ref_rounded_180 ?_
  refine lv_lshr (v := (shr_ kept fr)) hx hb d_Ref_rounded_183 rfl ?_
  refine lv_ldc2 (v := (2 : Int64)) hx hb hq.2.2.2.1 (hts _ wt_578) d_Ref_rounded_184 ?_
  refine W.lcmp hx hb d_Ref_rounded_187 ?_
  refine lv_if_ne (tgt := 200) hx hb d_Ref_rounded_188 (by decide) (fun c_1 => ?_) (fun c_1 => ?_)
  · rw [lg_cmp_eq] at c_1
    refine lv_lload hx hb d_Ref_rounded_200 (lv_at hl 3 rfl) ?_
    refine lv_aload_n hx hb d_Ref_rounded_202 rfl (lv_at hl 5 rfl) ?_
    refine rg_ 7 hq hP (by decide) wt_491 rfl rfl d_Ref_rounded_203 ?_
    refine lv_lshr (v := (shr_ kept fr)) hx hb d_Ref_rounded_206 rfl ?_
    refine lv_lconst (v := (0 : Int64)) hx hb d_Ref_rounded_207 (by decide) ?_
    refine W.lcmp hx hb d_Ref_rounded_208 ?_
    refine lv_if_ne (tgt := 220) hx hb d_Ref_rounded_209 (by decide) (fun c_2 => ?_) (fun c_2 => ?_)
    · rw [lg_cmp_eq] at c_2
      refine lv_iload hx hb d_Ref_rounded_220 (lv_at hl 0 rfl) ?_
      refine lv_iconst (v := (1 : Int32)) hx hb d_Ref_rounded_222 (by decide) ?_
      refine lv_iadd hx hb d_Ref_rounded_223 ?_
      refine lv_iconst (v := (2 : Int32)) hx hb d_Ref_rounded_224 (by decide) ?_
      refine lv_aload_n hx hb d_Ref_rounded_225 rfl (lv_at hl 5 rfl) ?_
      refine rg_ 8 hq hP (by decide) wt_492 rfl rfl d_Ref_rounded_226 ?_
      refine lv_imul hx hb d_Ref_rounded_229 ?_
      refine lv_icmp_le (tgt := 241) hx hb d_Ref_rounded_230 (by decide) (fun c_3 => ?_) (fun c_3 => ?_)
      · refine lv_aload_n hx hb d_Ref_rounded_241 rfl (lv_at hl 5 rfl) ?_
        refine lv_iload hx hb d_Ref_rounded_242 (lv_at hl 0 rfl) ?_
        refine lv_iconst (v := (1 : Int32)) hx hb d_Ref_rounded_244 (by decide) ?_
        refine lv_iadd hx hb d_Ref_rounded_245 ?_
        refine lv_i2l (v := (Int32.toInt64 ((cut - least) + (1 : Int32)))) hx hb d_Ref_rounded_246 rfl ?_
        refine lv_aload_n hx hb d_Ref_rounded_247 rfl (lv_at hl 5 rfl) ?_
        refine rg_ 7 hq hP (by decide) wt_491 rfl rfl d_Ref_rounded_248 ?_
        refine lv_lshl (v := (shl_ (Int32.toInt64 ((cut - least) + (1 : Int32))) fr)) hx hb d_Ref_rounded_251 rfl ?_
        refine lv_lload hx hb d_Ref_rounded_252 (lv_at hl 3 rfl) ?_
        refine lv_lconst (v := (1 : Int64)) hx hb d_Ref_rounded_254 (by decide) ?_
        refine lv_aload_n hx hb d_Ref_rounded_255 rfl (lv_at hl 5 rfl) ?_
        refine rg_ 7 hq hP (by decide) wt_491 rfl rfl d_Ref_rounded_256 ?_
        refine lv_lshl (v := (shl_ (1 : Int64) fr)) hx hb d_Ref_rounded_259 rfl ?_
        refine lv_lconst (v := (1 : Int64)) hx hb d_Ref_rounded_260 (by decide) ?_
        refine lv_lsub hx hb d_Ref_rounded_261 ?_
        refine lv_land hx hb d_Ref_rounded_262 ?_
        refine lv_lor hx hb d_Ref_rounded_263 ?_
        refine lv_iload_n hx hb d_Ref_rounded_264 rfl (lv_at hl 4 rfl) ?_
        refine rv_l (As := [.long ((shl_ (Int32.toInt64 ((cut - least) + (1 : Int32))) fr) ||| (kept &&& ((shl_ (1 : Int64) fr) - (1 : Int64)))), .int a0]) (rest := []) hq hA hP hS (c_Ref_signed l A ad D cB cJ o r hne hA cd la lo hi re wi fr bi mi am we f ((shl_ (Int32.toInt64 ((cut - least) + (1 : Int32))) fr) ||| (kept &&& ((shl_ (1 : Int64) fr) - (1 : Int64)))) a0) kB_Ref_signed wt_579 ⟨rfl, rfl, Nat.le_of_ble_eq_true rfl, Nat.le_of_ble_eq_true rfl⟩ rfl hl.1 rfl (Nat.le_of_ble_eq_true rfl) d_Ref_rounded_265 ⟨Nat.zero_le _, Nat.zero_le _⟩ (fun H locs hP hS => ?_)
        exact rr_l hq hr hk  hP hS (by rw [hw]; unfold q_Rt; exact (((if_neg c_1).trans ((if_neg c_2).trans ((if_pos c_3).trans rfl)))).symm) rfl rfl d_Ref_rounded_268
      · refine lv_aload_n hx hb d_Ref_rounded_233 rfl (lv_at hl 5 rfl) ?_
        refine lv_iload_n hx hb d_Ref_rounded_234 rfl (lv_at hl 4 rfl) ?_
        refine rv_l (As := [.int a0]) (rest := []) hq hA hP hS (c_Ref_infinite l A ad D cB cJ o r hne hA cd la lo hi re wi fr bi mi am we f a0) kB_Ref_infinite wt_574 ⟨rfl, rfl, Nat.le_of_ble_eq_true rfl, Nat.le_of_ble_eq_true rfl⟩ rfl hl.1 rfl (Nat.le_of_ble_eq_true rfl) d_Ref_rounded_235 ⟨Nat.zero_le _, Nat.zero_le _⟩ (fun H locs hP hS => ?_)
        refine lv_goto (tgt := 268) hx hb d_Ref_rounded_238 (by decide) ?_
        exact rr_l hq hr hk  hP hS (by rw [hw]; unfold q_Rt; exact (((if_neg c_1).trans ((if_neg c_2).trans ((if_neg c_3).trans rfl)))).symm) rfl rfl d_Ref_rounded_268
    · rw [lg_cmp_eq] at c_2
      refine lv_aload_n hx hb d_Ref_rounded_212 rfl (lv_at hl 5 rfl) ?_
      refine lv_lload hx hb d_Ref_rounded_213 (lv_at hl 3 rfl) ?_
      refine lv_iload_n hx hb d_Ref_rounded_215 rfl (lv_at hl 4 rfl) ?_
      refine rv_l (As := [.long kept, .int a0]) (rest := []) hq hA hP hS (c_Ref_signed l A ad D cB cJ o r hne hA cd la lo hi re wi fr bi mi am we f kept a0) kB_Ref_signed wt_579 ⟨rfl, rfl, Nat.le_of_ble_eq_true rfl, Nat.le_of_ble_eq_true rfl⟩ rfl hl.1 rfl (Nat.le_of_ble_eq_true rfl) d_Ref_rounded_216 ⟨Nat.zero_le _, Nat.zero_le _⟩ (fun H locs hP hS => ?_)
      exact rr_l hq hr hk  hP hS (by rw [hw]; unfold q_Rt; exact (((if_neg c_1).trans ((if_pos c_2).trans rfl))).symm) rfl rfl d_Ref_rounded_219
  · rw [lg_cmp_eq] at c_1
    refine lv_lload hx hb d_Ref_rounded_191 (lv_at hl 3 rfl) ?_
    refine lv_iconst (v := (1 : Int32)) hx hb d_Ref_rounded_193 (by decide) ?_
    refine lv_lshr (v := (shr_ kept (1 : Int32))) hx hb d_Ref_rounded_194 rfl ?_
    refine lv_lstore (lv' := [(5, .long (shr_ kept (1 : Int32))), (9, .int (cut - least)), (4, .int cut), (3, .int least), (1, .int a0), (0, .ref o)]) hx hb d_Ref_rounded_195 hl (by decide) rfl (fun ls hl => ?_)
    refine lv_iinc (v := ((cut - least) + (1 : Int32))) (lv' := [(9, .int ((cut - least) + (1 : Int32))), (5, .long (shr_ kept (1 : Int32))), (4, .int cut), (3, .int least), (1, .int a0), (0, .ref o)]) hx hb d_Ref_rounded_197 hl (k := 1) rfl rfl (by decide) rfl (fun ls hl => ?_)
    refine lv_lload hx hb d_Ref_rounded_200 (lv_at hl 1 rfl) ?_
    refine lv_aload_n hx hb d_Ref_rounded_202 rfl (lv_at hl 5 rfl) ?_
    refine rg_ 7 hq hP (by decide) wt_491 rfl rfl d_Ref_rounded_203 ?_
    refine lv_lshr (v := (shr_ (shr_ kept (1 : Int32)) fr)) hx hb d_Ref_rounded_206 rfl ?_
    refine lv_lconst (v := (0 : Int64)) hx hb d_Ref_rounded_207 (by decide) ?_
    refine W.lcmp hx hb d_Ref_rounded_208 ?_
    refine lv_if_ne (tgt := 220) hx hb d_Ref_rounded_209 (by decide) (fun c_4 => ?_) (fun c_4 => ?_)
    · rw [lg_cmp_eq] at c_4
      refine lv_iload hx hb d_Ref_rounded_220 (lv_at hl 0 rfl) ?_
      refine lv_iconst (v := (1 : Int32)) hx hb d_Ref_rounded_222 (by decide) ?_
      refine lv_iadd hx hb d_Ref_rounded_223 ?_
      refine lv_iconst (v := (2 : Int32)) hx hb d_Ref_rounded_224 (by decide) ?_
      refine lv_aload_n hx hb d_Ref_rounded_225 rfl (lv_at hl 5 rfl) ?_
      refine rg_ 8 hq hP (by decide) wt_492 rfl rfl d_Ref_rounded_226 ?_
      refine lv_imul hx hb d_Ref_rounded_229 ?_
      refine lv_icmp_le (tgt := 241) hx hb d_Ref_rounded_230 (by decide) (fun c_5 => ?_) (fun c_5 => ?_)
      · refine lv_aload_n hx hb d_Ref_rounded_241 rfl (lv_at hl 5 rfl) ?_
        refine lv_iload hx hb d_Ref_rounded_242 (lv_at hl 0 rfl) ?_
        refine lv_iconst (v := (1 : Int32)) hx hb d_Ref_rounded_244 (by decide) ?_
        refine lv_iadd hx hb d_Ref_rounded_245 ?_
        refine lv_i2l (v := (Int32.toInt64 (((cut - least) + (1 : Int32)) + (1 : Int32)))) hx hb d_Ref_rounded_246 rfl ?_
        refine lv_aload_n hx hb d_Ref_rounded_247 rfl (lv_at hl 5 rfl) ?_
        refine rg_ 7 hq hP (by decide) wt_491 rfl rfl d_Ref_rounded_248 ?_
        refine lv_lshl (v := (shl_ (Int32.toInt64 (((cut - least) + (1 : Int32)) + (1 : Int32))) fr)) hx hb d_Ref_rounded_251 rfl ?_
        refine lv_lload hx hb d_Ref_rounded_252 (lv_at hl 1 rfl) ?_
        refine lv_lconst (v := (1 : Int64)) hx hb d_Ref_rounded_254 (by decide) ?_
        refine lv_aload_n hx hb d_Ref_rounded_255 rfl (lv_at hl 5 rfl) ?_
        refine rg_ 7 hq hP (by decide) wt_491 rfl rfl d_Ref_rounded_256 ?_
        refine lv_lshl (v := (shl_ (1 : Int64) fr)) hx hb d_Ref_rounded_259 rfl ?_
        refine lv_lconst (v := (1 : Int64)) hx hb d_Ref_rounded_260 (by decide) ?_
        refine lv_lsub hx hb d_Ref_rounded_261 ?_
        refine lv_land hx hb d_Ref_rounded_262 ?_
        refine lv_lor hx hb d_Ref_rounded_263 ?_
        refine lv_iload_n hx hb d_Ref_rounded_264 rfl (lv_at hl 4 rfl) ?_
        refine rv_l (As := [.long ((shl_ (Int32.toInt64 (((cut - least) + (1 : Int32)) + (1 : Int32))) fr) ||| ((shr_ kept (1 : Int32)) &&& ((shl_ (1 : Int64) fr) - (1 : Int64)))), .int a0]) (rest := []) hq hA hP hS (c_Ref_signed l A ad D cB cJ o r hne hA cd la lo hi re wi fr bi mi am we f ((shl_ (Int32.toInt64 (((cut - least) + (1 : Int32)) + (1 : Int32))) fr) ||| ((shr_ kept (1 : Int32)) &&& ((shl_ (1 : Int64) fr) - (1 : Int64)))) a0) kB_Ref_signed wt_579 ⟨rfl, rfl, Nat.le_of_ble_eq_true rfl, Nat.le_of_ble_eq_true rfl⟩ rfl hl.1 rfl (Nat.le_of_ble_eq_true rfl) d_Ref_rounded_265 ⟨Nat.zero_le _, Nat.zero_le _⟩ (fun H locs hP hS => ?_)
        exact rr_l hq hr hk  hP hS (by rw [hw]; unfold q_Rt; exact (((if_pos c_1).trans ((if_neg c_4).trans ((if_pos c_5).trans rfl)))).symm) rfl rfl d_Ref_rounded_268
      · refine lv_aload_n hx hb d_Ref_rounded_233 rfl (lv_at hl 5 rfl) ?_
        refine lv_iload_n hx hb d_Ref_rounded_234 rfl (lv_at hl 4 rfl) ?_
        refine rv_l (As := [.int a0]) (rest := []) hq hA hP hS (c_Ref_infinite l A ad D cB cJ o r hne hA cd la lo hi re wi fr bi mi am we f a0) kB_Ref_infinite wt_574 ⟨rfl, rfl, Nat.le_of_ble_eq_true rfl, Nat.le_of_ble_eq_true rfl⟩ rfl hl.1 rfl (Nat.le_of_ble_eq_true rfl) d_Ref_rounded_235 ⟨Nat.zero_le _, Nat.zero_le _⟩ (fun H locs hP hS => ?_)
        refine lv_goto (tgt := 268) hx hb d_Ref_rounded_238 (by decide) ?_
        exact rr_l hq hr hk  hP hS (by rw [hw]; unfold q_Rt; exact (((if_pos c_1).trans ((if_neg c_4).trans ((if_neg c_5).trans rfl)))).symm) rfl rfl d_Ref_rounded_268
    · rw [lg_cmp_eq] at c_4
      refine lv_aload_n hx hb d_Ref_rounded_212 rfl (lv_at hl 5 rfl) ?_
      refine lv_lload hx hb d_Ref_rounded_213 (lv_at hl 1 rfl) ?_
      refine lv_iload_n hx hb d_Ref_rounded_215 rfl (lv_at hl 4 rfl) ?_
      refine rv_l (As := [.long (shr_ kept (1 : Int32)), .int a0]) (rest := []) hq hA hP hS (c_Ref_signed l A ad D cB cJ o r hne hA cd la lo hi re wi fr bi mi am we f (shr_ kept (1 : Int32)) a0) kB_Ref_signed wt_579 ⟨rfl, rfl, Nat.le_of_ble_eq_true rfl, Nat.le_of_ble_eq_true rfl⟩ rfl hl.1 rfl (Nat.le_of_ble_eq_true rfl) d_Ref_rounded_216 ⟨Nat.zero_le _, Nat.zero_le _⟩ (fun H locs hP hS => ?_)
      exact rr_l hq hr hk  hP hS (by rw [hw]; unfold q_Rt; exact (((if_pos c_1).trans ((if_pos c_4).trans rfl))).symm) rfl rfl d_Ref_rounded_219
set_option maxHeartbeats 4000000 in
set_option maxRecDepth 100000 in
theorem tm_Ref_rounded {p : Program} {l : Launch} {e : Env} {s : State} {m : MethodId} {args : Array Value} {below : List Frame} {meth : Method} {c : Code} {A : Nat → Prop} {ad : Nat → Nat} {D : va_G} {cB cJ : ClassId} {o r : Nat} (hq : FR p s m args c A ad D cB cJ b_Ref_rounded 10 y_Ref_rounded.cls) (hne : o ≠ r) (hA : ∀ q, rA o r q → A q) (hr : meth.sig.returnType = some .long) (hk : meth.locks = false) (cd : Int32) (la : Int64) (lo hi re wi fr bi mi : Int32) (am : Int64) (we : Int32) (f : Nat → Int32) (a0 : Int32) (N C Lst : Nat) (hf : RowIs f N) (hI : RI lo hi N) (hre : re = 0 ∨ re = 1) (hC1 : 1 ≤ C) (hC4 : C ≤ 4400) (w : Int64) (hw : w = q_Rt wi fr bi (nI C) (nI Lst) (lN (rd_ (2 * N + (if re = 0 then 0 else 1)) (C + 1))) a0) (hK : N / 2 ^ C < 2 ^ 62) (ls : Array Slot) (H : Heap) (locs : List Loc) (hl : lv_has ls 10 [(4, .int (nI C)), (3, .int (nI Lst)), (5, .long (lN (N / 2 ^ C))), (1, .int a0), (0, .ref o)]) (hP : va_P D clR (rw_ o r cB (rf_ cd la r lo hi re wi fr bi mi am we) f) H) (hS : va_S (rA o r) s.heap H locs) :
    W p l e ({ frames := 2, cells := 0, slots := 0, locals := 44 } : Room) s m args below meth c H locs 0 0 (MQ below (QRl D cB o r w (rf_ cd la r lo hi re wi fr bi mi am we) f) args s 0 0 (rA o r)) (F0 m 77 ls []) := by
  have hx := hq.1
  have hb := hq.2.1
  have hts := hq.2.2.2.2.1
  have hcm : nI C - 1 = nI (C - 1) := pk_sub (b := 1) hC1
  have hI9 := hI
  obtain ⟨a, b, e1, e2, ha, hb4, h1, h2⟩ := hI9
  refine lv_iload hx hb d_Ref_rounded_77 (lv_at hl 0 rfl) ?_
  refine jn_ (J := 121) (ls := ls) (v := .int (if (nI C) ≤ 0 then (0 : Int32) else (if hi < ((nI C) - (1 : Int32)) then (0 : Int32) else (if ((nI C) - (1 : Int32)) < lo then (0 : Int32) else (if (f (C - 1)) = 0 then (0 : Int32) else (1 : Int32)))))) (rest := []) (fun hj => ?_) ?_
  · refine lv_if_le (tgt := 120) hx hb d_Ref_rounded_79 (by decide) (fun c_1 => ?_) (fun c_1 => ?_)
    · refine lv_iconst (v := (0 : Int32)) hx hb d_Ref_rounded_120 (by decide) ?_
      exact (by rw [if_pos c_1] at hj; exact hj)
    · refine lv_iload hx hb d_Ref_rounded_82 (lv_at hl 0 rfl) ?_
      refine lv_iconst (v := (1 : Int32)) hx hb d_Ref_rounded_84 (by decide) ?_
      refine lv_isub hx hb d_Ref_rounded_85 ?_
      refine lv_aload_n hx hb d_Ref_rounded_86 rfl (lv_at hl 4 rfl) ?_
      refine rg_ 4 hq hP (by decide) wt_488 rfl rfl d_Ref_rounded_87 ?_
      refine jn_ (J := 121) (ls := ls) (v := .int (if hi < ((nI C) - (1 : Int32)) then (0 : Int32) else (if ((nI C) - (1 : Int32)) < lo then (0 : Int32) else (if (f (C - 1)) = 0 then (0 : Int32) else (1 : Int32))))) (rest := []) (fun hj => ?_) ?_
      · refine lv_icmp_gt (tgt := 120) hx hb d_Ref_rounded_90 (by decide) (fun c_2 => ?_) (fun c_2 => ?_)
        · refine lv_iconst (v := (0 : Int32)) hx hb d_Ref_rounded_120 (by decide) ?_
          exact (by rw [if_pos c_2] at hj; exact hj)
        · refine lv_iload hx hb d_Ref_rounded_93 (lv_at hl 0 rfl) ?_
          refine lv_iconst (v := (1 : Int32)) hx hb d_Ref_rounded_95 (by decide) ?_
          refine lv_isub hx hb d_Ref_rounded_96 ?_
          refine lv_aload_n hx hb d_Ref_rounded_97 rfl (lv_at hl 4 rfl) ?_
          refine rg_ 3 hq hP (by decide) wt_487 rfl rfl d_Ref_rounded_98 ?_
          refine jn_ (J := 121) (ls := ls) (v := .int (if ((nI C) - (1 : Int32)) < lo then (0 : Int32) else (if (f (C - 1)) = 0 then (0 : Int32) else (1 : Int32)))) (rest := []) (fun hj => ?_) ?_
          · refine lv_icmp_lt (tgt := 120) hx hb d_Ref_rounded_101 (by decide) (fun c_3 => ?_) (fun c_3 => ?_)
            · refine lv_iconst (v := (0 : Int32)) hx hb d_Ref_rounded_120 (by decide) ?_
              exact (by rw [if_pos c_3] at hj; exact hj)
            · refine lv_aload_n hx hb d_Ref_rounded_104 rfl (lv_at hl 4 rfl) ?_
              refine rg_ 2 hq hP (by decide) wt_486 rfl rfl d_Ref_rounded_105 ?_
              refine lv_iload hx hb d_Ref_rounded_108 (lv_at hl 0 rfl) ?_
              refine lv_iconst (v := (1 : Int32)) hx hb d_Ref_rounded_110 (by decide) ?_
              refine lv_isub hx hb d_Ref_rounded_111 ?_
              rw [hcm]
              refine rb_ (j := (C - 1)) hq hP (show C - 1 < 4400 by omega) d_Ref_rounded_112 ?_
              refine jn_ (J := 121) (ls := ls) (v := .int (if (f (C - 1)) = 0 then (0 : Int32) else (1 : Int32))) (rest := []) (fun hj => ?_) ?_
              · refine lv_if_eq (tgt := 120) hx hb d_Ref_rounded_113 (by decide) (fun c_4 => ?_) (fun c_4 => ?_)
                · refine lv_iconst (v := (0 : Int32)) hx hb d_Ref_rounded_120 (by decide) ?_
                  exact (by rw [if_pos c_4] at hj; exact hj)
                · refine lv_iconst (v := (1 : Int32)) hx hb d_Ref_rounded_116 (by decide) ?_
                  refine lv_goto (tgt := 121) hx hb d_Ref_rounded_117 (by decide) ?_
                  exact (by rw [if_neg c_4] at hj; exact hj)
              exact (by rw [if_neg c_3] at hj; exact hj)
          exact (by rw [if_neg c_2] at hj; exact hj)
      exact (by rw [if_neg c_1] at hj; exact hj)
  have hhalf : (if (nI C) ≤ 0 then (0 : Int32) else (if hi < ((nI C) - (1 : Int32)) then (0 : Int32) else (if ((nI C) - (1 : Int32)) < lo then (0 : Int32) else (if (f (C - 1)) = 0 then (0 : Int32) else (1 : Int32))))) = nI (N / 2 ^ (C - 1) % 2) := by
    rw [hcm, if_neg (nI_nle (by omega) (by omega)), e1, e2, hf (C - 1) (by omega)]
    by_cases g1 : b < C - 1
    · rw [if_pos (nI_lt g1 (by omega)), bit_hi h2 g1]; rfl
    · rw [if_neg (nI_nlt (by omega) (by omega))]
      by_cases g2 : C - 1 < a
      · rw [if_pos (nI_lt g2 (by omega)), bit_lo h1 g2]; rfl
      · rw [if_neg (nI_nlt (by omega) (by omega))]
        rcases Nat.mod_two_eq_zero_or_one (N / 2 ^ (C - 1)) with z | z
        · rw [z]; rfl
        · rw [z]; rfl
  rw [hhalf]
  have hrd := rd_up_ (N := N) (rb := if re = 0 then 0 else 1) hC1 (by split <;> omega)
  have hb2 : N / 2 ^ (C - 1) % 2 < 2 := Nat.mod_lt _ (by decide)
  generalize hbe : N / 2 ^ (C - 1) % 2 = hb9 at *
  have hKo : (lN (N / 2 ^ C) &&& 1 = 1) ↔ N / 2 ^ C % 2 = 1 := by
    rw [wb_a1 (by omega), show (1 : Int64) = lN 1 from rfl, lN_inj64 (by omega) (by decide)]
  have hbl : (q_Ref_isBelow re N (C - 1) = 0) ↔ (re = 0 ∧ N % 2 ^ (C - 1) = 0) := by
    unfold q_Ref_isBelow
    split
    · rename_i h9; exact ⟨fun _ => h9, fun _ => rfl⟩
    · rename_i h9; exact ⟨fun q => absurd q (by decide), fun q => absurd q h9⟩
  have hrb : ((if re = 0 then 0 else 1) : Nat) ≠ 0 ↔ ¬ re = 0 := by
    split <;> rename_i h9
    · exact ⟨fun q => absurd rfl q, fun q => absurd h9 q⟩
    · exact ⟨fun _ => h9, fun _ => by decide⟩
  have hhb : nI hb9 = 0 ↔ hb9 = 0 := nI_eq (b := 0) (by omega) (by decide)
  refine lv_istore (lv' := [(7, .int (nI hb9)), (4, .int (nI C)), (3, .int (nI Lst)), (5, .long (lN (N / 2 ^ C))), (1, .int a0), (0, .ref o)]) hx hb d_Ref_rounded_121 hl (by decide) rfl (fun ls hl => ?_)
  refine lv_iload hx hb d_Ref_rounded_123 (lv_at hl 0 rfl) ?_
  refine lv_if_eq (tgt := 152) hx hb d_Ref_rounded_125 (by decide) (fun c_21 => ?_) (fun c_21 => ?_)
  · refine lv_iconst (v := (0 : Int32)) hx hb d_Ref_rounded_152 (by decide) ?_
    refine lv_istore (lv' := [(8, .int (0 : Int32)), (7, .int (nI hb9)), (4, .int (nI C)), (3, .int (nI Lst)), (5, .long (lN (N / 2 ^ C))), (1, .int a0), (0, .ref o)]) hx hb d_Ref_rounded_153 hl (by decide) rfl (fun ls hl => ?_)
    refine lv_iload hx hb d_Ref_rounded_155 (lv_at hl 0 rfl) ?_
    refine lv_if_eq (tgt := 167) hx hb d_Ref_rounded_157 (by decide) (fun _ => ?_) (fun c => absurd (by decide) c)
    refine lv_lload hx hb d_Ref_rounded_167 (lv_at hl 4 rfl) ?_
    refine lv_lstore (lv' := [(5, .long (lN (N / 2 ^ C))), (8, .int (0 : Int32)), (7, .int (nI hb9)), (4, .int (nI C)), (3, .int (nI Lst)), (1, .int a0), (0, .ref o)]) hx hb d_Ref_rounded_169 hl (by decide) rfl (fun ls hl => ?_)
    have hv9 : (lN (N / 2 ^ C)) = lN (rd_ (2 * N + (if re = 0 then 0 else 1)) (C + 1)) := by
      rw [hhb] at c_21
      rw [hrd, if_neg (fun q => by have q1 := q.1; omega)]
    rw [hv9] at hl
    exact tl_Rt hq hne hA hr hk cd la lo hi re wi fr bi mi am we f (nI C) (nI Lst) _ a0 w hw ls H locs (lv_sub hl [3, 4, 0, 5, 6] rfl) hP hS
  · refine lv_aload_n hx hb d_Ref_rounded_128 rfl (lv_at hl 5 rfl) ?_
    refine lv_iload hx hb d_Ref_rounded_129 (lv_at hl 1 rfl) ?_
    refine lv_iconst (v := (1 : Int32)) hx hb d_Ref_rounded_131 (by decide) ?_
    refine lv_isub hx hb d_Ref_rounded_132 ?_
    refine rv_i (As := [.int ((nI C) - (1 : Int32))]) (rest := []) hq hA hP hS (c_Ref_isBelow l A ad D cB cJ o r hne hA cd la lo hi re wi fr bi mi am we f ((nI C) - (1 : Int32)) N (C - 1) hcm (by omega) hre hf hI) kB_Ref_isBelow wt_627 ⟨rfl, rfl, Nat.le_of_ble_eq_true rfl, Nat.le_of_ble_eq_true rfl⟩ rfl hl.1 rfl (Nat.le_of_ble_eq_true rfl) d_Ref_rounded_133 ⟨Nat.zero_le _, Nat.zero_le _⟩ (fun H locs hP hS => ?_)
    refine jn_ (J := 153) (ls := ls) (v := .int (if (q_Ref_isBelow re N (C - 1)) = 0 then (if ((lN (N / 2 ^ C)) &&& (1 : Int64)) = (1 : Int64) then (1 : Int32) else (0 : Int32)) else (1 : Int32))) (rest := []) (fun hj => ?_) ?_
    · refine lv_if_ne (tgt := 148) hx hb d_Ref_rounded_136 (by decide) (fun c_22 => ?_) (fun c_22 => ?_)
      · refine lv_iconst (v := (1 : Int32)) hx hb d_Ref_rounded_148 (by decide) ?_
        refine lv_goto (tgt := 153) hx hb d_Ref_rounded_149 (by decide) ?_
        exact (by rw [if_neg c_22] at hj; exact hj)
      · refine lv_lload hx hb d_Ref_rounded_139 (lv_at hl 3 rfl) ?_
        refine lv_lconst (v := (1 : Int64)) hx hb d_Ref_rounded_141 (by decide) ?_
        refine lv_land hx hb d_Ref_rounded_142 ?_
        refine lv_lconst (v := (1 : Int64)) hx hb d_Ref_rounded_143 (by decide) ?_
        refine W.lcmp hx hb d_Ref_rounded_144 ?_
        refine jn_ (J := 153) (ls := ls) (v := .int (if ((lN (N / 2 ^ C)) &&& (1 : Int64)) = (1 : Int64) then (1 : Int32) else (0 : Int32))) (rest := []) (fun hj => ?_) ?_
        · refine lv_if_ne (tgt := 152) hx hb d_Ref_rounded_145 (by decide) (fun c_23 => ?_) (fun c_23 => ?_)
          · rw [lg_cmp_eq] at c_23
            refine lv_iconst (v := (0 : Int32)) hx hb d_Ref_rounded_152 (by decide) ?_
            exact (by rw [if_neg c_23] at hj; exact hj)
          · rw [lg_cmp_eq] at c_23
            refine lv_iconst (v := (1 : Int32)) hx hb d_Ref_rounded_148 (by decide) ?_
            refine lv_goto (tgt := 153) hx hb d_Ref_rounded_149 (by decide) ?_
            exact (by rw [if_pos c_23] at hj; exact hj)
        exact (by rw [if_pos c_22] at hj; exact hj)
    refine lv_istore (lv' := [(8, .int (if (q_Ref_isBelow re N (C - 1)) = 0 then (if ((lN (N / 2 ^ C)) &&& (1 : Int64)) = (1 : Int64) then (1 : Int32) else (0 : Int32)) else (1 : Int32))), (7, .int (nI hb9)), (4, .int (nI C)), (3, .int (nI Lst)), (5, .long (lN (N / 2 ^ C))), (1, .int a0), (0, .ref o)]) hx hb d_Ref_rounded_153 hl (by decide) rfl (fun ls hl => ?_)
    refine lv_iload hx hb d_Ref_rounded_155 (lv_at hl 0 rfl) ?_
    refine jn_ (J := 169) (ls := ls) (v := .long (if (if (q_Ref_isBelow re N (C - 1)) = 0 then (if ((lN (N / 2 ^ C)) &&& (1 : Int64)) = (1 : Int64) then (1 : Int32) else (0 : Int32)) else (1 : Int32)) = 0 then (lN (N / 2 ^ C)) else ((lN (N / 2 ^ C)) + (1 : Int64)))) (rest := []) (fun hj => ?_) ?_
    · refine lv_if_eq (tgt := 167) hx hb d_Ref_rounded_157 (by decide) (fun c_24 => ?_) (fun c_24 => ?_)
      · refine lv_lload hx hb d_Ref_rounded_167 (lv_at hl 4 rfl) ?_
        exact (by rw [if_pos c_24] at hj; exact hj)
      · refine lv_lload hx hb d_Ref_rounded_160 (lv_at hl 4 rfl) ?_
        refine lv_lconst (v := (1 : Int64)) hx hb d_Ref_rounded_162 (by decide) ?_
        refine lv_ladd hx hb d_Ref_rounded_163 ?_
        refine lv_goto (tgt := 169) hx hb d_Ref_rounded_164 (by decide) ?_
        exact (by rw [if_neg c_24] at hj; exact hj)
    refine lv_lstore (lv' := [(5, .long (if (if (q_Ref_isBelow re N (C - 1)) = 0 then (if ((lN (N / 2 ^ C)) &&& (1 : Int64)) = (1 : Int64) then (1 : Int32) else (0 : Int32)) else (1 : Int32)) = 0 then (lN (N / 2 ^ C)) else ((lN (N / 2 ^ C)) + (1 : Int64)))), (8, .int (if (q_Ref_isBelow re N (C - 1)) = 0 then (if ((lN (N / 2 ^ C)) &&& (1 : Int64)) = (1 : Int64) then (1 : Int32) else (0 : Int32)) else (1 : Int32))), (7, .int (nI hb9)), (4, .int (nI C)), (3, .int (nI Lst)), (1, .int a0), (0, .ref o)]) hx hb d_Ref_rounded_169 hl (by decide) rfl (fun ls hl => ?_)
    have hv9 : (if (if (q_Ref_isBelow re N (C - 1)) = 0 then (if ((lN (N / 2 ^ C)) &&& (1 : Int64)) = (1 : Int64) then (1 : Int32) else (0 : Int32)) else (1 : Int32)) = 0 then (lN (N / 2 ^ C)) else ((lN (N / 2 ^ C)) + (1 : Int64))) = lN (rd_ (2 * N + (if re = 0 then 0 else 1)) (C + 1)) := by
      rw [hhb] at c_21
      have hb1 : hb9 = 1 := by omega
      rw [hrd]
      by_cases g : re = 0 ∧ N % 2 ^ (C - 1) = 0
      · rw [if_pos (hbl.mpr g)]
        by_cases g2 : N / 2 ^ C % 2 = 1
        · rw [if_pos (hKo.mpr g2), if_neg (by decide), if_pos ⟨hb1, Or.inr (Or.inr g2)⟩, lN_1]
        · rw [if_neg (fun q => g2 (hKo.mp q)), if_pos rfl, if_neg (fun q => ?_)]
          rcases q.2 with q3 | q3 | q3
          · exact (hrb.mp q3) g.1
          · exact q3 g.2
          · exact g2 q3
      · have hor : ((if re = 0 then 0 else 1) : Nat) ≠ 0 ∨ N % 2 ^ (C - 1) ≠ 0 ∨ N / 2 ^ C % 2 = 1 := by
          by_cases g1 : re = 0
          · exact Or.inr (Or.inl (fun q => g ⟨g1, q⟩))
          · exact Or.inl (hrb.mpr g1)
        rw [if_neg (fun q => g (hbl.mp q)), if_neg (by decide), if_pos ⟨hb1, hor⟩, lN_1]
    rw [hv9] at hl
    exact tl_Rt hq hne hA hr hk cd la lo hi re wi fr bi mi am we f (nI C) (nI Lst) _ a0 w hw ls H locs (lv_sub hl [3, 4, 0, 5, 6] rfl) hP hS
set_option maxHeartbeats 4000000 in
set_option maxRecDepth 100000 in
theorem lp_Ref_rounded {p : Program} {l : Launch} {e : Env} {s : State} {m : MethodId} {args : Array Value} {below : List Frame} {meth : Method} {c : Code} {A : Nat → Prop} {ad : Nat → Nat} {D : va_G} {cB cJ : ClassId} {o r : Nat} (hq : FR p s m args c A ad D cB cJ b_Ref_rounded 10 y_Ref_rounded.cls) (hne : o ≠ r) (hA : ∀ q, rA o r q → A q) (hr : meth.sig.returnType = some .long) (hk : meth.locks = false) (cd : Int32) (la : Int64) (lo hi re wi fr bi mi : Int32) (am : Int64) (we : Int32) (f : Nat → Int32) (a0 : Int32) (N C Lst : Nat) (hf : RowIs f N) (hI : RI lo hi N) (hre : re = 0 ∨ re = 1) (hC1 : 1 ≤ C) (hC4 : C ≤ 4400) (w : Int64) (hw : w = q_Rt wi fr bi (nI C) (nI Lst) (lN (rd_ (2 * N + (if re = 0 then 0 else 1)) (C + 1))) a0) (hK : N / 2 ^ C < 2 ^ 62) :
    ∀ (d j : Nat) (ls : Array Slot) (H : Heap) (locs : List Loc), j + 1 = C + d → j < 4400 → lv_has ls 10 [(7, .int (nI j)), (5, .long (lN (N / 2 ^ (j + 1)))), (4, .int (nI C)), (3, .int (nI Lst)), (1, .int a0), (0, .ref o)] → va_P D clR (rw_ o r cB (rf_ cd la r lo hi re wi fr bi mi am we) f) H → va_S (rA o r) s.heap H locs →
      W p l e ({ frames := 2, cells := 0, slots := 0, locals := 44 } : Room) s m args below meth c H locs 0 0 (MQ below (QRl D cB o r w (rf_ cd la r lo hi re wi fr bi mi am we) f) args s 0 0 (rA o r)) (F0 m 47 ls []) := by
  have hx := hq.1
  have hb := hq.2.1
  have hts := hq.2.2.2.2.1
  intro d
  induction d with
  | zero =>
    intro j ls H locs hd hj hl hP hS
    refine lv_iload hx hb d_Ref_rounded_47 (lv_at hl 0 rfl) ?_
    refine lv_iload hx hb d_Ref_rounded_49 (lv_at hl 2 rfl) ?_
    refine lv_icmp_lt (tgt := 77) hx hb d_Ref_rounded_51 (by decide) (fun _ => ?_) (fun c9 => absurd (nI_lt (show j < C by omega) (by omega)) c9)
    have hl2 := lv_sub (l' := [(4, .int (nI C)), (3, .int (nI Lst)), (5, .long (lN (N / 2 ^ (j + 1)))), (1, .int a0), (0, .ref o)]) hl [2, 3, 1, 4, 5] rfl
    rw [show j + 1 = C by omega] at hl2
    exact tm_Ref_rounded hq hne hA hr hk cd la lo hi re wi fr bi mi am we f a0 N C Lst hf hI hre hC1 hC4 w hw hK ls H locs hl2 hP hS
  | succ d ih =>
    intro j ls H locs hd hj hl hP hS
    refine lv_iload hx hb d_Ref_rounded_47 (lv_at hl 0 rfl) ?_
    refine lv_iload hx hb d_Ref_rounded_49 (lv_at hl 2 rfl) ?_
    refine lv_icmp_lt (tgt := 77) hx hb d_Ref_rounded_51 (by decide) (fun c9 => absurd c9 (nI_nlt (show C ≤ j by omega) (by omega))) (fun _ => ?_)
    refine lv_ldc2 (v := (2 : Int64)) hx hb hq.2.2.2.1 (hts _ wt_578) d_Ref_rounded_54 ?_
    refine lv_lload hx hb d_Ref_rounded_57 (lv_at hl 1 rfl) ?_
    refine lv_lmul hx hb d_Ref_rounded_59 ?_
    refine lv_aload_n hx hb d_Ref_rounded_60 rfl (lv_at hl 5 rfl) ?_
    refine rg_ 2 hq hP (by decide) wt_486 rfl rfl d_Ref_rounded_61 ?_
    refine lv_iload hx hb d_Ref_rounded_64 (lv_at hl 0 rfl) ?_
    refine rb_ (j := j) hq hP hj d_Ref_rounded_66 ?_
    refine lv_i2l (v := (Int32.toInt64 (f j))) hx hb d_Ref_rounded_67 rfl ?_
    refine lv_ladd hx hb d_Ref_rounded_68 ?_
    have hstep : (2 : Int64) * lN (N / 2 ^ (j + 1)) + Int32.toInt64 (f j) = lN (N / 2 ^ j) := by
      rw [hf j hj, nI_l (by omega), show (2 : Int64) = lN 2 from rfl, lN_mul, lN_add]
      congr 1
      rw [Nat.pow_succ, ← Nat.div_div_eq_div_mul]
      omega
    rw [hstep]
    refine lv_lstore (lv' := [(5, .long (lN (N / 2 ^ j))), (7, .int (nI j)), (4, .int (nI C)), (3, .int (nI Lst)), (1, .int a0), (0, .ref o)]) hx hb d_Ref_rounded_69 hl (by decide) rfl (fun ls hl => ?_)
    obtain ⟨j2, rfl⟩ : ∃ j2, j = j2 + 1 := ⟨j - 1, by omega⟩
    refine lv_iinc (v := nI j2) (lv' := [(7, .int (nI j2)), (5, .long (lN (N / 2 ^ (j2 + 1)))), (4, .int (nI C)), (3, .int (nI Lst)), (1, .int a0), (0, .ref o)]) hx hb d_Ref_rounded_71 hl (k := 1) rfl (pk_m1 j2) (by decide) rfl (fun ls hl => ?_)
    refine lv_goto (tgt := 47) hx hb d_Ref_rounded_74 (by decide) ?_
    exact ih j2 ls H locs (by omega) (by omega) hl hP hS
set_option maxHeartbeats 4000000 in
set_option maxRecDepth 100000 in
theorem c_Ref_rounded0 (l : Launch) (A : Nat → Prop) (ad : Nat → Nat) (D : va_G) (cB cJ : ClassId) (o r : Nat) (hne : o ≠ r) (hA : ∀ q, rA o r q → A q) (cd : Int32) (la : Int64) (lo hi re wi fr bi mi : Int32) (am : Int64) (we : Int32) (f : Nat → Int32) (a0 : Int32) (N F B C Lst : Nat) (hf : RowIs f N) (hI : RI lo hi N) (h0 : 0 < N) (hre : re = 0 ∨ re = 1) (hfr : fr = nI F) (hbi : bi = nI B) (hFB : (F = 23 ∧ B = 127) ∨ (F = 52 ∧ B = 1023)) (hLst : Lst = 2201 - B - F) (hC : C = max (N.log2 - F) Lst) (w : Int64) (hw : w = q_Rt wi fr bi (nI C) (nI Lst) (lN (rd_ (2 * N + (if re = 0 then 0 else 1)) (C + 1))) a0) : Met l y_Ref_rounded (Cond.code y_Ref_rounded b_Ref_rounded 10 (some .long) :: BT) ({ frames := 2, cells := 0, slots := 0, locals := 44 } : Room) (PR A ad D cB cJ o r (rf_ cd la r lo hi re wi fr bi mi am we) f [.int a0]) (QRl D cB o r w (rf_ cd la r lo hi re wi fr bi mi am we) f) 0 0 (rA o r) := by
  have hI9 := hI
  obtain ⟨a, b, -, -, ha, hb4, h1, h2⟩ := hI9
  have hL4 : N.log2 ≤ b := by
    have := (Nat.log2_lt (n := N) (k := b + 1) (by omega)).mpr h2
    omega
  obtain ⟨lo9, hi9⟩ := log2_bd_ h0
  have hK : N / 2 ^ C < 2 ^ 62 := by
    have e1 : N < 2 ^ C * 2 ^ 62 := by
      rw [← Nat.pow_add]
      exact Nat.lt_of_lt_of_le hi9 (Nat.pow_le_pow_right (by decide) (by omega))
    exact (Nat.div_lt_iff_lt_mul (Nat.two_pow_pos C)).mpr (by rw [Nat.mul_comm]; exact e1)
  refine pr_ (by decide) (Nat.le_of_ble_eq_true rfl) ?_
  intro p e s m below meth c hq hP hS hr hk ls hl
  have hx := hq.1
  have hb := hq.2.1
  have hts := hq.2.2.2.2.1
  have hl : lv_has ls 10 [(0, .ref o), (1, .int a0)] := hl
  refine lv_aload_n hx hb d_Ref_rounded_0 rfl (lv_at hl 0 rfl) ?_
  refine rv_i (As := []) (rest := []) hq hA hP hS (c_Ref_highest l A ad D cB cJ o r hne hA cd la lo hi re wi fr bi mi am we f  N hf hI h0) kB_Ref_highest wt_623 ⟨rfl, rfl, Nat.le_of_ble_eq_true rfl, Nat.le_of_ble_eq_true rfl⟩ rfl hl.1 rfl (Nat.le_of_ble_eq_true rfl) d_Ref_rounded_1 ⟨Nat.zero_le _, Nat.zero_le _⟩ (fun H locs hP hS => ?_)
  refine lv_istore_n (lv' := [(2, .int (nI N.log2)), (0, .ref o), (1, .int a0)]) hx hb d_Ref_rounded_4 rfl hl (by decide) rfl (fun ls hl => ?_)
  refine lv_sipush (v := (2201 : Int32)) hx hb d_Ref_rounded_5 (by decide) ?_
  refine lv_aload_n hx hb d_Ref_rounded_8 rfl (lv_at hl 1 rfl) ?_
  refine rg_ 8 hq hP (by decide) wt_492 rfl rfl d_Ref_rounded_9 ?_
  refine lv_isub hx hb d_Ref_rounded_12 ?_
  refine lv_aload_n hx hb d_Ref_rounded_13 rfl (lv_at hl 1 rfl) ?_
  refine rg_ 7 hq hP (by decide) wt_491 rfl rfl d_Ref_rounded_14 ?_
  refine lv_isub hx hb d_Ref_rounded_17 ?_
  have hle : (2201 : Int32) - bi - fr = nI Lst := by
    rw [hbi, hfr, hLst, show (2201 : Int32) = nI 2201 from rfl, pk_sub (by omega), pk_sub (by omega)]
  rw [hle]
  refine lv_istore_n (lv' := [(3, .int (nI Lst)), (2, .int (nI N.log2)), (0, .ref o), (1, .int a0)]) hx hb d_Ref_rounded_18 rfl hl (by decide) rfl (fun ls hl => ?_)
  refine lv_iload_n hx hb d_Ref_rounded_19 rfl (lv_at hl 1 rfl) ?_
  refine lv_aload_n hx hb d_Ref_rounded_20 rfl (lv_at hl 2 rfl) ?_
  refine rg_ 7 hq hP (by decide) wt_491 rfl rfl d_Ref_rounded_21 ?_
  refine lv_isub hx hb d_Ref_rounded_24 ?_
  refine lv_iload_n hx hb d_Ref_rounded_25 rfl (lv_at hl 0 rfl) ?_
  refine jn_ (J := 39) (ls := ls) (v := .int (if ((nI N.log2) - fr) ≤ (nI Lst) then (nI Lst) else ((nI N.log2) - fr))) (rest := []) (fun hj => ?_) ?_
  · refine lv_icmp_le (tgt := 38) hx hb d_Ref_rounded_26 (by decide) (fun c_1 => ?_) (fun c_1 => ?_)
    · refine lv_iload_n hx hb d_Ref_rounded_38 rfl (lv_at hl 0 rfl) ?_
      exact (by rw [if_pos c_1] at hj; exact hj)
    · refine lv_iload_n hx hb d_Ref_rounded_29 rfl (lv_at hl 1 rfl) ?_
      refine lv_aload_n hx hb d_Ref_rounded_30 rfl (lv_at hl 2 rfl) ?_
      refine rg_ 7 hq hP (by decide) wt_491 rfl rfl d_Ref_rounded_31 ?_
      refine lv_isub hx hb d_Ref_rounded_34 ?_
      refine lv_goto (tgt := 39) hx hb d_Ref_rounded_35 (by decide) ?_
      exact (by rw [if_neg c_1] at hj; exact hj)
  have hcut : (if ((nI N.log2) - fr) ≤ (nI Lst) then (nI Lst) else ((nI N.log2) - fr)) = nI C := by
    rw [hfr, ← zI_n, ← zI_n, ← zI_n, ← zI_n, zI_sub]
    by_cases g1 : (N.log2 : Int) - F ≤ Lst
    · rw [if_pos ((zI_le ⟨by omega, by omega⟩ ⟨by omega, by omega⟩).mpr g1)]; congr 1; omega
    · rw [if_neg (fun q => g1 ((zI_le ⟨by omega, by omega⟩ ⟨by omega, by omega⟩).mp q))]; congr 1; omega
  rw [hcut]
  refine lv_istore (lv' := [(4, .int (nI C)), (3, .int (nI Lst)), (2, .int (nI N.log2)), (0, .ref o), (1, .int a0)]) hx hb d_Ref_rounded_39 hl (by decide) rfl (fun ls hl => ?_)
  refine lv_lconst (v := (0 : Int64)) hx hb d_Ref_rounded_41 (by decide) ?_
  refine lv_lstore (lv' := [(5, .long (0 : Int64)), (4, .int (nI C)), (3, .int (nI Lst)), (2, .int (nI N.log2)), (0, .ref o), (1, .int a0)]) hx hb d_Ref_rounded_42 hl (by decide) rfl (fun ls hl => ?_)
  refine lv_iload_n hx hb d_Ref_rounded_44 rfl (lv_at hl 3 rfl) ?_
  refine lv_istore (lv' := [(7, .int (nI N.log2)), (5, .long (0 : Int64)), (4, .int (nI C)), (3, .int (nI Lst)), (2, .int (nI N.log2)), (0, .ref o), (1, .int a0)]) hx hb d_Ref_rounded_45 hl (by decide) rfl (fun ls hl => ?_)
  have hl2 := lv_sub (l' := [(7, .int (nI N.log2)), (5, .long (0 : Int64)), (4, .int (nI C)), (3, .int (nI Lst)), (1, .int a0), (0, .ref o)]) hl [0, 1, 2, 3, 6, 5] rfl
  have hz : (0 : Int64) = lN (N / 2 ^ (N.log2 + 1)) := by rw [Nat.div_eq_of_lt hi9]; rfl
  rw [hz] at hl2
  by_cases g1 : C ≤ N.log2 + 1
  · exact lp_Ref_rounded hq hne hA hr hk cd la lo hi re wi fr bi mi am we f a0 N C Lst hf hI hre (by omega) (by omega) w hw hK (N.log2 + 1 - C) N.log2 ls _ _ (by omega) (by omega) hl2 hP hS
  · have hlt : N.log2 < C := by omega
    have hl := hl2
    refine lv_iload hx hb d_Ref_rounded_47 (lv_at hl 0 rfl) ?_
    refine lv_iload hx hb d_Ref_rounded_49 (lv_at hl 2 rfl) ?_
    refine lv_icmp_lt (tgt := 77) hx hb d_Ref_rounded_51 (by decide) (fun _ => ?_) (fun c9 => absurd (nI_lt hlt (by omega)) c9)
    have hl3 := lv_sub (l' := [(4, .int (nI C)), (3, .int (nI Lst)), (5, .long (lN (N / 2 ^ (N.log2 + 1)))), (1, .int a0), (0, .ref o)]) hl [2, 3, 1, 4, 5] rfl
    have e5 : N / 2 ^ (N.log2 + 1) = N / 2 ^ C := by rw [Nat.div_eq_of_lt hi9, Nat.div_eq_of_lt (Nat.lt_of_lt_of_le hi9 (Nat.pow_le_pow_right (by decide) (show N.log2 + 1 ≤ C by omega)))]
    rw [e5] at hl3
    exact tm_Ref_rounded hq hne hA hr hk cd la lo hi re wi fr bi mi am we f a0 N C Lst hf hI hre (by omega) (by omega) w hw hK ls _ _ hl3 hP hS
