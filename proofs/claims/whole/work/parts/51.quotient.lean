set_option maxHeartbeats 4000000 in
set_option maxRecDepth 100000 in
theorem lp_Ref_quotient {p : Program} {l : Launch} {e : Env} {s : State} {m : MethodId} {args : Array Value} {below : List Frame} {meth : Method} {c : Code} {A : Nat → Prop} {ad : Nat → Nat} {D : va_G} {cB cJ : ClassId} {o r : Nat} (hq : FR p s m args c A ad D cB cJ b_Ref_quotient 12 y_Ref_quotient.cls) (hne : o ≠ r) (hA : ∀ q, rA o r q → A q) (hr : meth.sig.returnType = some .long) (hk : meth.locks = false) (cd : Int32) (la : Int64) (wi fr bi mi we : Int32) (F B : Nat) (hfm : fmR wi fr bi F B) (X Y P : Nat) (pw ng : Int32) (hX : X < 2 ^ 53) (hY : Y < 2 ^ 53) (hX0 : 0 < X) (hY0 : 0 < Y) (hPw : (2200 : Int32) + pw = nI (P + 110)) (hP1 : 1 ≤ P) (hP4 : P ≤ 4140) (w : Int64) (hw : w = q_Ref_signed wi (lN (rR_ F B (2 * (X * 2 ^ 110 / Y * 2 ^ P) + (if X * 2 ^ 110 % Y = 0 then 0 else 1)) (-2201))) ng) :
    ∀ (d Qn Lf : Nat) (lo hi : Int32) (f : Nat → Int32) (H : Heap) (locs : List Loc) (ls : Array Slot), d ≤ 163 → X * 2 ^ (163 - d) / 2 ^ 53 = Y * Qn + Lf → Lf < Y → Qn < 2 ^ (163 - d) → RowIs f (Qn * 2 ^ (P + d)) → RI lo hi (Qn * 2 ^ (P + d)) → lv_has ls 12 [(11, .int (zI ((d : Int) - 111))), (9, .long (lN Lf)), (8, .int pw), (6, .long (lN Y)), (5, .int ng), (0, .ref o)] → va_P D clR (rw_ o r cB (rf_ cd la r lo hi 0 wi fr bi mi (lN X) we) f) H → va_S (rA o r) s.heap H locs → W p l e ({ frames := 3, cells := 0, slots := 0, locals := 73 } : Room) s m args below meth c H locs 0 0 (MQ below (QP D cB o r (fun v fs' f' => v = some (.long w) ∧ SJ r cd la fs' f')) args s 0 0 (rA o r)) (F0 m 147 ls []) := by
  have hx := hq.1
  have hb := hq.2.1
  have hts := hq.2.2.2.2.1
  intro d
  induction d with
  | zero =>
    intro Qn Lf lo hi f H locs ls hd hV hLf hQn hf hI hl hP hS
    have hl : lv_has ls 12 [(11, .int (-111 : Int32)), (9, .long (lN Lf)), (8, .int pw), (6, .long (lN Y)), (5, .int ng), (0, .ref o)] := hl
    have hV2 : X * 2 ^ 110 = Y * Qn + Lf := by
      rw [← hV, show X * 2 ^ (163 - 0) = X * 2 ^ 110 * 2 ^ 53 by rw [Nat.mul_assoc], Nat.mul_div_cancel _ (Nat.two_pow_pos _)]
    have eq1 : X * 2 ^ 110 / Y = Qn := by rw [hV2, Nat.mul_add_div hY0, Nat.div_eq_of_lt hLf, Nat.add_zero]
    have eq2 : X * 2 ^ 110 % Y = Lf := by rw [hV2, Nat.mul_add_mod, Nat.mod_eq_of_lt hLf]
    have hQ0 : 0 < Qn := by
      rw [← eq1]
      refine Nat.div_pos ?_ hY0
      have : 1 * 2 ^ 110 ≤ X * 2 ^ 110 := Nat.mul_le_mul_right _ hX0
      omega
    rw [Nat.add_zero] at hf hI
    have hpos : 0 < Qn * 2 ^ P := Nat.mul_pos hQ0 (Nat.two_pow_pos P)
    refine lv_iload hx hb d_Ref_quotient_147 (lv_at hl 0 rfl) ?_
    refine lv_bipush (v := (-110 : Int32)) hx hb d_Ref_quotient_149 (by decide) ?_
    refine lv_icmp_lt (tgt := 212) hx hb d_Ref_quotient_151 (by decide) (fun _ => ?_) (fun c9 => absurd (by decide) c9)
    refine lv_aload_n hx hb d_Ref_quotient_212 rfl (lv_at hl 5 rfl) ?_
    refine lv_lload hx hb d_Ref_quotient_213 (lv_at hl 1 rfl) ?_
    refine lv_lconst (v := (0 : Int64)) hx hb d_Ref_quotient_215 (by decide) ?_
    refine W.lcmp hx hb d_Ref_quotient_216 ?_
    refine jn_ (J := 225) (ls := ls) (v := .int (if (lN Lf) = (0 : Int64) then (0 : Int32) else (1 : Int32))) (rest := [.ref o]) (fun hj => ?_) ?_
    · refine lv_if_eq (tgt := 224) hx hb d_Ref_quotient_217 (by decide) (fun c_1 => ?_) (fun c_1 => ?_)
      · rw [lg_cmp_eq] at c_1
        refine lv_iconst (v := (0 : Int32)) hx hb d_Ref_quotient_224 (by decide) ?_
        exact (by rw [if_pos c_1] at hj; exact hj)
      · rw [lg_cmp_eq] at c_1
        refine lv_iconst (v := (1 : Int32)) hx hb d_Ref_quotient_220 (by decide) ?_
        refine lv_goto (tgt := 225) hx hb d_Ref_quotient_221 (by decide) ?_
        exact (by rw [if_neg c_1] at hj; exact hj)
    refine rp_ 5 (ty := tR 5) hq hne hP hS (by decide) wt_489 rfl rfl rfl (nb_ (by (repeat' split) <;> first | exact Or.inl rfl | exact Or.inr rfl)) (nf_ (by (repeat' split) <;> first | exact Or.inl rfl | exact Or.inr rfl)) (Nat.le_of_ble_eq_true rfl) d_Ref_quotient_225 (fun H locs hP hS => ?_)
    have hP : va_P D clR (rw_ o r cB (rf_ cd la r lo hi (if (lN Lf) = (0 : Int64) then (0 : Int32) else (1 : Int32)) wi fr bi mi (lN X) we) f) H := hP
    refine lv_aload_n hx hb d_Ref_quotient_228 rfl (lv_at hl 5 rfl) ?_
    refine lv_iload hx hb d_Ref_quotient_229 (lv_at hl 4 rfl) ?_
    have hz9 : (if (lN Lf) = (0 : Int64) then (0 : Int32) else (1 : Int32)) = 0 ∨ (if (lN Lf) = (0 : Int64) then (0 : Int32) else (1 : Int32)) = 1 := by (repeat' split) <;> first | exact Or.inl rfl | exact Or.inr rfl
    refine rv_l (As := [.int ng]) (rest := []) hq hA hP hS (c_Ref_rounded l A ad D cB cJ o r hne hA cd la lo hi (if (lN Lf) = (0 : Int64) then (0 : Int32) else (1 : Int32)) wi fr bi mi (lN X) we f ng (Qn * 2 ^ P) F B hf hI hpos hz9 (fmR_f hfm) (fmR_b hfm) (fmR_FB hfm)) kB_Ref_rounded wt_619 ⟨rfl, rfl, Nat.le_of_ble_eq_true rfl, Nat.le_of_ble_eq_true rfl⟩ rfl hl.1 rfl (Nat.le_of_ble_eq_true rfl) d_Ref_quotient_231 ⟨Nat.zero_le _, Nat.zero_le _⟩ (fun H locs hP hS => ?_)
    have hw2 : q_Ref_signed wi (lN (rR_ F B (2 * (Qn * 2 ^ P) + (if (if (lN Lf) = (0 : Int64) then (0 : Int32) else (1 : Int32)) = 0 then 0 else 1)) (-2201))) ng = w := by
      rw [hw, eq1, eq2]
      by_cases g : Lf = 0
      · rw [if_pos g, if_pos (show lN Lf = (0 : Int64) by rw [g]; rfl)]; rfl
      · rw [if_neg g, if_neg (fun q => g ((lN_z64 (by omega)).mp q))]; rfl
    exact qr_l hq hr hk hP hS ⟨congrArg (fun z => some (Value.long z)) hw2, _, _, _, _, _, _, _, _, _, _, rfl, hz9, hf, hI⟩ d_Ref_quotient_234
  | succ d ih =>
    intro Qn Lf lo hi f H locs ls hd hV hLf hQn hf hI hl hP hS
    have hl : lv_has ls 12 [(11, .int (zI ((d : Int) - 110))), (9, .long (lN Lf)), (8, .int pw), (6, .long (lN Y)), (5, .int ng), (0, .ref o)] := by
      rw [show ((d + 1 : Nat) : Int) - 111 = (d : Int) - 110 by omega] at hl; exact hl
    refine lv_iload hx hb d_Ref_quotient_147 (lv_at hl 0 rfl) ?_
    refine lv_bipush (v := (-110 : Int32)) hx hb d_Ref_quotient_149 (by decide) ?_
    refine lv_icmp_lt (tgt := 212) hx hb d_Ref_quotient_151 (by decide) (fun c9 => absurd c9 (by rw [show (-110 : Int32) = zI (-110) from rfl, zI_lt ⟨by omega, by omega⟩ ⟨by omega, by omega⟩]; omega)) (fun _ => ?_)
    refine lv_ldc2 (v := (2 : Int64)) hx hb hq.2.2.2.1 (hts _ wt_578) d_Ref_quotient_154 ?_
    refine lv_lload hx hb d_Ref_quotient_157 (lv_at hl 1 rfl) ?_
    refine lv_lmul hx hb d_Ref_quotient_159 ?_
    refine lv_iload hx hb d_Ref_quotient_160 (lv_at hl 0 rfl) ?_
    refine jn_ (J := 178) (ls := ls) (v := .long (if 0 ≤ (zI ((d : Int) - 110)) then ((shr_ (lN X) (zI ((d : Int) - 110))) &&& (1 : Int64)) else (0 : Int64))) (rest := [.long ((2 : Int64) * (lN Lf))]) (fun hj => ?_) ?_
    · refine lv_if_ge (tgt := 169) hx hb d_Ref_quotient_162 (by decide) (fun c_41 => ?_) (fun c_41 => ?_)
      · refine lv_aload_n hx hb d_Ref_quotient_169 rfl (lv_at hl 5 rfl) ?_
        refine rg_ 10 hq hP (by decide) wt_494 rfl rfl d_Ref_quotient_170 ?_
        refine lv_iload hx hb d_Ref_quotient_173 (lv_at hl 0 rfl) ?_
        refine lv_lshr (v := (shr_ (lN X) (zI ((d : Int) - 110)))) hx hb d_Ref_quotient_175 rfl ?_
        refine lv_lconst (v := (1 : Int64)) hx hb d_Ref_quotient_176 (by decide) ?_
        refine lv_land hx hb d_Ref_quotient_177 ?_
        exact (by rw [if_pos c_41] at hj; exact hj)
      · refine lv_lconst (v := (0 : Int64)) hx hb d_Ref_quotient_165 (by decide) ?_
        refine lv_goto (tgt := 178) hx hb d_Ref_quotient_166 (by decide) ?_
        exact (by rw [if_neg c_41] at hj; exact hj)
    refine lv_ladd hx hb d_Ref_quotient_178 ?_
    have hst := qu_step (X := X) (d := d) (by omega)
    have hV1 : X * 2 ^ (162 - d) / 2 ^ 53 = Y * Qn + Lf := by rw [← hV]; congr 3; omega
    have hb1 := qu_bit (X := X) (k := (zI ((d : Int) - 110))) hX (show d < 163 by omega) rfl
    have hbl : (if 110 ≤ d then X / 2 ^ (d - 110) % 2 else 0) ≤ 1 := by split <;> omega
    generalize (if 110 ≤ d then X / 2 ^ (d - 110) % 2 else 0) = bt9 at *
    have hnew : (((2 : Int64) * (lN Lf)) + (if 0 ≤ (zI ((d : Int) - 110)) then ((shr_ (lN X) (zI ((d : Int) - 110))) &&& (1 : Int64)) else (0 : Int64))) = lN (2 * Lf + bt9) := by rw [hb1, show (2 : Int64) = lN 2 from rfl, lN_mul, lN_add]
    rw [hnew]
    rw [hV1] at hst
    refine lv_lstore (lv' := [(9, .long (lN (2 * Lf + bt9))), (11, .int (zI ((d : Int) - 110))), (8, .int pw), (6, .long (lN Y)), (5, .int ng), (0, .ref o)]) hx hb d_Ref_quotient_179 hl (by decide) rfl (fun ls hl => ?_)
    refine lv_lload hx hb d_Ref_quotient_181 (lv_at hl 0 rfl) ?_
    refine lv_lload hx hb d_Ref_quotient_183 (lv_at hl 3 rfl) ?_
    refine W.lcmp hx hb d_Ref_quotient_185 ?_
    by_cases hge : Y ≤ 2 * Lf + bt9
    · refine lv_if_lt (tgt := 206) hx hb d_Ref_quotient_186 (by decide) (fun c9 => absurd ((lg_cmp_lt _ _).mp c9) (fun q => by have := (pk_lLT (by omega) (by omega)).mp q; omega)) (fun _ => ?_)
      refine lv_lload hx hb d_Ref_quotient_189 (lv_at hl 0 rfl) ?_
      refine lv_lload hx hb d_Ref_quotient_191 (lv_at hl 3 rfl) ?_
      refine lv_lsub hx hb d_Ref_quotient_193 ?_
      rw [lN_sub hge]
      refine lv_lstore (lv' := [(9, .long (lN (2 * Lf + bt9 - Y))), (11, .int (zI ((d : Int) - 110))), (8, .int pw), (6, .long (lN Y)), (5, .int ng), (0, .ref o)]) hx hb d_Ref_quotient_194 hl (by decide) rfl (fun ls hl => ?_)
      refine lv_aload_n hx hb d_Ref_quotient_196 rfl (lv_at hl 5 rfl) ?_
      refine lv_lconst (v := (1 : Int64)) hx hb d_Ref_quotient_197 (by decide) ?_
      refine lv_iload hx hb d_Ref_quotient_198 (lv_at hl 2 rfl) ?_
      refine lv_iload hx hb d_Ref_quotient_200 (lv_at hl 1 rfl) ?_
      refine lv_iadd hx hb d_Ref_quotient_202 ?_
      have hP2 : (2200 : Int32) + (pw + (zI ((d : Int) - 110))) = nI (P + d) := by
        rw [← Int32.add_assoc, hPw, ← zI_n, ← zI_n, zI_add]; congr 1; omega
      refine rq_ (As := [.long (1 : Int64), .int (pw + (zI ((d : Int) - 110)))]) (rest := []) hq hA hP hS (c_Ref_addX l A ad D cB cJ o r hne hA cd la lo hi 0 wi fr bi mi (lN X) we f (Qn * 2 ^ (P + (d + 1))) hf hI 1 (pw + (zI ((d : Int) - 110))) (P + d) hP2 (by omega) (qu_fit hQn (by omega) hP4)) kB_Ref_add wt_611 ⟨rfl, rfl, Nat.le_of_ble_eq_true rfl, Nat.le_of_ble_eq_true rfl⟩ rfl hl.1 rfl (Nat.le_of_ble_eq_true rfl) d_Ref_quotient_203 ⟨Nat.zero_le _, Nat.zero_le _⟩ (fun v9 fs9 f9 H locs hk9 hP hS => ?_)
      obtain ⟨rfl, lo9, hi9, rfl, hf9, hI9⟩ := hk9
      have hN9 : Qn * 2 ^ (P + (d + 1)) + un_ (1 : Int64) * 2 ^ (P + d) = (2 * Qn + 1) * 2 ^ (P + d) := by
        rw [show un_ (1 : Int64) = 1 from rfl, show P + (d + 1) = P + d + 1 by omega, Nat.pow_succ, Nat.add_mul, Nat.mul_comm (2 ^ (P + d)) 2, ← Nat.mul_assoc, Nat.mul_comm Qn 2]
      rw [hN9] at hf9 hI9
      refine lv_iinc (v := zI ((d : Int) - 111)) (lv' := [(11, .int (zI ((d : Int) - 111))), (9, .long (lN (2 * Lf + bt9 - Y))), (8, .int pw), (6, .long (lN Y)), (5, .int ng), (0, .ref o)]) hx hb d_Ref_quotient_206 hl (k := 1) rfl ((zI_add _ _).trans (congrArg zI (by omega))) (by decide) rfl (fun ls hl => ?_)
      refine lv_goto (tgt := 147) hx hb d_Ref_quotient_209 (by decide) ?_
      refine ih (2 * Qn + 1) (2 * Lf + bt9 - Y) lo9 hi9 f9 H locs ls (by omega) ?_ (by omega) ?_ hf9 hI9 hl hP hS
      · rw [hst, Nat.mul_add, Nat.mul_add, Nat.mul_one, Nat.mul_left_comm Y 2 Qn]; omega
      · rw [show 163 - d = 163 - (d + 1) + 1 by omega, Nat.pow_succ]; omega
    · refine lv_if_lt (tgt := 206) hx hb d_Ref_quotient_186 (by decide) (fun _ => ?_) (fun c9 => absurd ((lg_cmp_lt _ _).mpr ((pk_lLT (by omega) (by omega)).mpr (by omega))) c9)
      have hN9 : Qn * 2 ^ (P + (d + 1)) = (2 * Qn) * 2 ^ (P + d) := by
        rw [show P + (d + 1) = P + d + 1 by omega, Nat.pow_succ, Nat.mul_comm (2 ^ (P + d)) 2, ← Nat.mul_assoc, Nat.mul_comm Qn 2]
      rw [hN9] at hf hI
      refine lv_iinc (v := zI ((d : Int) - 111)) (lv' := [(11, .int (zI ((d : Int) - 111))), (9, .long (lN (2 * Lf + bt9))), (8, .int pw), (6, .long (lN Y)), (5, .int ng), (0, .ref o)]) hx hb d_Ref_quotient_206 hl (k := 1) rfl ((zI_add _ _).trans (congrArg zI (by omega))) (by decide) rfl (fun ls hl => ?_)
      refine lv_goto (tgt := 147) hx hb d_Ref_quotient_209 (by decide) ?_
      refine ih (2 * Qn) (2 * Lf + bt9) lo hi f H locs ls (by omega) ?_ (by omega) ?_ hf hI hl hP hS
      · rw [hst, Nat.mul_add, Nat.mul_left_comm Y 2 Qn]; omega
      · rw [show 163 - d = 163 - (d + 1) + 1 by omega, Nat.pow_succ]; omega
def q_Ref_quotient (F B : Nat) (wi : Int32) (fr : Int32) (bi : Int32) (a0 : Int64) (a1 : Int64) : Int64 :=
  if (q_Ref_isInfinite wi fr bi a0) = 0 then
    if (q_Ref_isZero wi a0) = 0 then
      if (q_Ref_isZero wi a1) = 0 then
        if (q_Ref_isInfinite wi fr bi a1) = 0 then
          (q_Ref_signed wi (lN (rR_ F B (2 * (un_ (q_Ref_split_am wi fr bi a0) * 2 ^ 110 / un_ (q_Ref_split_am wi fr bi a1) * 2 ^ (w3_ (q_Ref_split_we wi fr bi a0) (q_Ref_split_we wi fr bi a1))) + (if un_ (q_Ref_split_am wi fr bi a0) * 2 ^ 110 % un_ (q_Ref_split_am wi fr bi a1) = 0 then 0 else 1)) (-2201))) (if (q_Ref_isMinus wi a0) = (q_Ref_isMinus wi a1) then (0 : Int32) else (1 : Int32)))
        else
          (q_Ref_signed wi (0 : Int64) (if (q_Ref_isMinus wi a0) = (q_Ref_isMinus wi a1) then (0 : Int32) else (1 : Int32)))
      else
        (q_Ref_infinite wi fr bi (if (q_Ref_isMinus wi a0) = (q_Ref_isMinus wi a1) then (0 : Int32) else (1 : Int32)))
    else
      if (q_Ref_isZero wi a1) = 0 then
        if (q_Ref_isInfinite wi fr bi a1) = 0 then
          (q_Ref_signed wi (0 : Int64) (if (q_Ref_isMinus wi a0) = (q_Ref_isMinus wi a1) then (0 : Int32) else (1 : Int32)))
        else
          (q_Ref_signed wi (0 : Int64) (if (q_Ref_isMinus wi a0) = (q_Ref_isMinus wi a1) then (0 : Int32) else (1 : Int32)))
      else
        (q_Ref_noNumber wi)
  else
    if (q_Ref_isInfinite wi fr bi a1) = 0 then
      if (q_Ref_isZero wi a0) = 0 then
        (q_Ref_infinite wi fr bi (if (q_Ref_isMinus wi a0) = (q_Ref_isMinus wi a1) then (0 : Int32) else (1 : Int32)))
      else
        if (q_Ref_isZero wi a1) = 0 then
          (q_Ref_infinite wi fr bi (if (q_Ref_isMinus wi a0) = (q_Ref_isMinus wi a1) then (0 : Int32) else (1 : Int32)))
        else
          (q_Ref_noNumber wi)
    else
      (q_Ref_noNumber wi)
theorem kB_Ref_quotient : RB y_Ref_quotient b_Ref_quotient 12 (some .long) 2 := ⟨wt_674, wt_673, wt_28, wt_36, by decide +kernel⟩
set_option maxHeartbeats 4000000 in
set_option maxRecDepth 100000 in
theorem c_Ref_quotient (l : Launch) (A : Nat → Prop) (ad : Nat → Nat) (D : va_G) (cB cJ : ClassId) (o r : Nat) (hne : o ≠ r) (hA : ∀ q, rA o r q → A q) (cd : Int32) (la : Int64) (lo : Int32) (hi : Int32) (re : Int32) (wi : Int32) (fr : Int32) (bi : Int32) (mi : Int32) (am : Int64) (we : Int32) (f : Nat → Int32) (N : Nat) (hf : RowIs f N) (hI : RI lo hi N) (hre : re = 0 ∨ re = 1) (a0 : Int64) (a1 : Int64) (F B : Nat) (hfm : fmR wi fr bi F B) : Met l y_Ref_quotient (Cond.code y_Ref_quotient b_Ref_quotient 12 (some .long) :: BT) ({ frames := 3, cells := 0, slots := 0, locals := 73 }) (PR A ad D cB cJ o r (rf_ cd la r lo hi re wi fr bi mi am we) f [.long a0, .long a1]) (QP D cB o r (fun v fs' f' => v = some (.long (q_Ref_quotient F B wi fr bi a0 a1)) ∧ SJ r cd la fs' f')) 0 0 (rA o r) := by
  refine pr_ (by decide) (Nat.le_of_ble_eq_true rfl) ?_
  intro p e s m below meth c hq hP hS hr hk ls hl
  have hx := hq.1
  have hb := hq.2.1
  have hts := hq.2.2.2.2.1
  have hl : lv_has ls 12 [(0, .ref o), (1, .long a0), (3, .long a1)] := hl
  refine lv_aload_n hx hb d_Ref_quotient_0 rfl (lv_at hl 0 rfl) ?_
  refine lv_lload_n hx hb d_Ref_quotient_1 rfl (lv_at hl 1 rfl) ?_
  refine rv_i (As := [.long a0]) (rest := []) hq hA hP hS (c_Ref_isMinus l A ad D cB cJ o r hne hA cd la lo hi re wi fr bi mi am we f a0) kB_Ref_isMinus wt_591 ⟨rfl, rfl, Nat.le_of_ble_eq_true rfl, Nat.le_of_ble_eq_true rfl⟩ rfl hl.1 rfl (Nat.le_of_ble_eq_true rfl) d_Ref_quotient_2 ⟨Nat.zero_le _, Nat.zero_le _⟩ (fun H locs hP hS => ?_)
  refine lv_aload_n hx hb d_Ref_quotient_5 rfl (lv_at hl 0 rfl) ?_
  refine lv_lload_n hx hb d_Ref_quotient_6 rfl (lv_at hl 2 rfl) ?_
  refine rv_i (As := [.long a1]) (rest := [.int (q_Ref_isMinus wi a0)]) hq hA hP hS (c_Ref_isMinus l A ad D cB cJ o r hne hA cd la lo hi re wi fr bi mi am we f a1) kB_Ref_isMinus wt_591 ⟨rfl, rfl, Nat.le_of_ble_eq_true rfl, Nat.le_of_ble_eq_true rfl⟩ rfl hl.1 rfl (Nat.le_of_ble_eq_true rfl) d_Ref_quotient_7 ⟨Nat.zero_le _, Nat.zero_le _⟩ (fun H locs hP hS => ?_)
  refine jn_ (J := 18) (ls := ls) (v := .int (if (q_Ref_isMinus wi a0) = (q_Ref_isMinus wi a1) then (0 : Int32) else (1 : Int32))) (rest := []) (fun hj => ?_) ?_
  · refine lv_icmp_eq (tgt := 17) hx hb d_Ref_quotient_10 (by decide) (fun c_1 => ?_) (fun c_1 => ?_)
    · refine lv_iconst (v := (0 : Int32)) hx hb d_Ref_quotient_17 (by decide) ?_
      exact (by rw [if_pos c_1] at hj; exact hj)
    · refine lv_iconst (v := (1 : Int32)) hx hb d_Ref_quotient_13 (by decide) ?_
      refine lv_goto (tgt := 18) hx hb d_Ref_quotient_14 (by decide) ?_
      exact (by rw [if_neg c_1] at hj; exact hj)
  refine lv_istore (lv' := [(5, .int (if (q_Ref_isMinus wi a0) = (q_Ref_isMinus wi a1) then (0 : Int32) else (1 : Int32))), (0, .ref o), (1, .long a0), (3, .long a1)]) hx hb d_Ref_quotient_18 hl (by decide) rfl (fun ls hl => ?_)
  refine lv_aload_n hx hb d_Ref_quotient_20 rfl (lv_at hl 1 rfl) ?_
  refine lv_lload_n hx hb d_Ref_quotient_21 rfl (lv_at hl 2 rfl) ?_
  refine rv_i (As := [.long a0]) (rest := []) hq hA hP hS (c_Ref_isInfinite l A ad D cB cJ o r hne hA cd la lo hi re wi fr bi mi am we f a0) kB_Ref_isInfinite wt_583 ⟨rfl, rfl, Nat.le_of_ble_eq_true rfl, Nat.le_of_ble_eq_true rfl⟩ rfl hl.1 rfl (Nat.le_of_ble_eq_true rfl) d_Ref_quotient_22 ⟨Nat.zero_le _, Nat.zero_le _⟩ (fun H locs hP hS => ?_)
  refine lv_if_eq (tgt := 36) hx hb d_Ref_quotient_25 (by decide) (fun c_2 => ?_) (fun c_2 => ?_)
  · refine lv_aload_n hx hb d_Ref_quotient_36 rfl (lv_at hl 1 rfl) ?_
    refine lv_lload_n hx hb d_Ref_quotient_37 rfl (lv_at hl 2 rfl) ?_
    refine rv_i (As := [.long a0]) (rest := []) hq hA hP hS (c_Ref_isZero l A ad D cB cJ o r hne hA cd la lo hi re wi fr bi mi am we f a0) kB_Ref_isZero wt_635 ⟨rfl, rfl, Nat.le_of_ble_eq_true rfl, Nat.le_of_ble_eq_true rfl⟩ rfl hl.1 rfl (Nat.le_of_ble_eq_true rfl) d_Ref_quotient_38 ⟨Nat.zero_le _, Nat.zero_le _⟩ (fun H locs hP hS => ?_)
    refine lv_if_eq (tgt := 57) hx hb d_Ref_quotient_41 (by decide) (fun c_3 => ?_) (fun c_3 => ?_)
    · refine lv_aload_n hx hb d_Ref_quotient_57 rfl (lv_at hl 1 rfl) ?_
      refine lv_lload_n hx hb d_Ref_quotient_58 rfl (lv_at hl 2 rfl) ?_
      refine rv_i (As := [.long a0]) (rest := []) hq hA hP hS (c_Ref_isInfinite l A ad D cB cJ o r hne hA cd la lo hi re wi fr bi mi am we f a0) kB_Ref_isInfinite wt_583 ⟨rfl, rfl, Nat.le_of_ble_eq_true rfl, Nat.le_of_ble_eq_true rfl⟩ rfl hl.1 rfl (Nat.le_of_ble_eq_true rfl) d_Ref_quotient_59 ⟨Nat.zero_le _, Nat.zero_le _⟩ (fun H locs hP hS => ?_)
      refine lv_if_ne (tgt := 73) hx hb d_Ref_quotient_62 (by decide) (fun c9 => absurd c_2 c9) (fun _ => ?_)
      refine lv_aload_n hx hb d_Ref_quotient_65 rfl (lv_at hl 1 rfl) ?_
      refine lv_lload_n hx hb d_Ref_quotient_66 rfl (lv_at hl 3 rfl) ?_
      refine rv_i (As := [.long a1]) (rest := []) hq hA hP hS (c_Ref_isZero l A ad D cB cJ o r hne hA cd la lo hi re wi fr bi mi am we f a1) kB_Ref_isZero wt_635 ⟨rfl, rfl, Nat.le_of_ble_eq_true rfl, Nat.le_of_ble_eq_true rfl⟩ rfl hl.1 rfl (Nat.le_of_ble_eq_true rfl) d_Ref_quotient_67 ⟨Nat.zero_le _, Nat.zero_le _⟩ (fun H locs hP hS => ?_)
      refine lv_if_eq (tgt := 80) hx hb d_Ref_quotient_70 (by decide) (fun c_4 => ?_) (fun c_4 => ?_)
      · refine lv_aload_n hx hb d_Ref_quotient_80 rfl (lv_at hl 1 rfl) ?_
        refine lv_lload_n hx hb d_Ref_quotient_81 rfl (lv_at hl 3 rfl) ?_
        refine rv_i (As := [.long a1]) (rest := []) hq hA hP hS (c_Ref_isInfinite l A ad D cB cJ o r hne hA cd la lo hi re wi fr bi mi am we f a1) kB_Ref_isInfinite wt_583 ⟨rfl, rfl, Nat.le_of_ble_eq_true rfl, Nat.le_of_ble_eq_true rfl⟩ rfl hl.1 rfl (Nat.le_of_ble_eq_true rfl) d_Ref_quotient_82 ⟨Nat.zero_le _, Nat.zero_le _⟩ (fun H locs hP hS => ?_)
        refine lv_if_ne (tgt := 96) hx hb d_Ref_quotient_85 (by decide) (fun c_5 => ?_) (fun c_5 => ?_)
        · refine lv_aload_n hx hb d_Ref_quotient_96 rfl (lv_at hl 1 rfl) ?_
          refine lv_lconst (v := (0 : Int64)) hx hb d_Ref_quotient_97 (by decide) ?_
          refine lv_iload hx hb d_Ref_quotient_98 (lv_at hl 0 rfl) ?_
          refine rv_l (As := [.long (0 : Int64), .int (if (q_Ref_isMinus wi a0) = (q_Ref_isMinus wi a1) then (0 : Int32) else (1 : Int32))]) (rest := []) hq hA hP hS (c_Ref_signed l A ad D cB cJ o r hne hA cd la lo hi re wi fr bi mi am we f (0 : Int64) (if (q_Ref_isMinus wi a0) = (q_Ref_isMinus wi a1) then (0 : Int32) else (1 : Int32))) kB_Ref_signed wt_579 ⟨rfl, rfl, Nat.le_of_ble_eq_true rfl, Nat.le_of_ble_eq_true rfl⟩ rfl hl.1 rfl (Nat.le_of_ble_eq_true rfl) d_Ref_quotient_100 ⟨Nat.zero_le _, Nat.zero_le _⟩ (fun H locs hP hS => ?_)
          exact qr_l hq hr hk hP hS ⟨congrArg (fun z => some (Value.long z)) (by unfold q_Ref_quotient; exact (((if_pos c_2).trans ((if_pos c_3).trans ((if_pos c_4).trans ((if_neg c_5).trans rfl))))).symm), _, _, _, _, _, _, _, _, _, _, rfl, hre, hf, hI⟩ d_Ref_quotient_103
        · refine lv_aload_n hx hb d_Ref_quotient_88 rfl (lv_at hl 1 rfl) ?_
          refine lv_lload_n hx hb d_Ref_quotient_89 rfl (lv_at hl 2 rfl) ?_
          refine rv_i (As := [.long a0]) (rest := []) hq hA hP hS (c_Ref_isZero l A ad D cB cJ o r hne hA cd la lo hi re wi fr bi mi am we f a0) kB_Ref_isZero wt_635 ⟨rfl, rfl, Nat.le_of_ble_eq_true rfl, Nat.le_of_ble_eq_true rfl⟩ rfl hl.1 rfl (Nat.le_of_ble_eq_true rfl) d_Ref_quotient_90 ⟨Nat.zero_le _, Nat.zero_le _⟩ (fun H locs hP hS => ?_)
          refine lv_if_eq (tgt := 104) hx hb d_Ref_quotient_93 (by decide) (fun _ => ?_) (fun c9 => absurd c_3 c9)
          refine lv_aload_n hx hb d_Ref_quotient_104 rfl (lv_at hl 1 rfl) ?_
          refine lv_lload_n hx hb d_Ref_quotient_105 rfl (lv_at hl 3 rfl) ?_
          refine rv_v (As := [.long a1]) (rest := []) hq hA hP hS (c_Ref_split l A ad D cB cJ o r hne hA cd la lo hi re wi fr bi mi am we f a1) kB_Ref_split wt_587 ⟨rfl, rfl, Nat.le_of_ble_eq_true rfl, Nat.le_of_ble_eq_true rfl⟩ rfl hl.1 rfl (Nat.le_of_ble_eq_true rfl) d_Ref_quotient_106 ⟨Nat.zero_le _, Nat.zero_le _⟩ (fun H locs hP hS => ?_)
          refine lv_aload_n hx hb d_Ref_quotient_109 rfl (lv_at hl 1 rfl) ?_
          refine rg_ 10 hq hP (by decide) wt_494 rfl rfl d_Ref_quotient_110 ?_
          refine lv_lstore (lv' := [(6, .long (q_Ref_split_am wi fr bi a1)), (5, .int (if (q_Ref_isMinus wi a0) = (q_Ref_isMinus wi a1) then (0 : Int32) else (1 : Int32))), (0, .ref o), (1, .long a0), (3, .long a1)]) hx hb d_Ref_quotient_113 hl (by decide) rfl (fun ls hl => ?_)
          refine lv_aload_n hx hb d_Ref_quotient_115 rfl (lv_at hl 2 rfl) ?_
          refine rg_ 11 hq hP (by decide) wt_495 rfl rfl d_Ref_quotient_116 ?_
          refine lv_ineg hx hb d_Ref_quotient_119 ?_
          refine lv_istore (lv' := [(8, .int (-(q_Ref_split_we wi fr bi a1))), (6, .long (q_Ref_split_am wi fr bi a1)), (5, .int (if (q_Ref_isMinus wi a0) = (q_Ref_isMinus wi a1) then (0 : Int32) else (1 : Int32))), (0, .ref o), (1, .long a0), (3, .long a1)]) hx hb d_Ref_quotient_120 hl (by decide) rfl (fun ls hl => ?_)
          refine lv_aload_n hx hb d_Ref_quotient_122 rfl (lv_at hl 3 rfl) ?_
          refine lv_lload_n hx hb d_Ref_quotient_123 rfl (lv_at hl 4 rfl) ?_
          refine rv_v (As := [.long a0]) (rest := []) hq hA hP hS (c_Ref_split l A ad D cB cJ o r hne hA cd la lo hi re wi fr bi (q_Ref_split_mi wi fr bi a1) (q_Ref_split_am wi fr bi a1) (q_Ref_split_we wi fr bi a1) f a0) kB_Ref_split wt_587 ⟨rfl, rfl, Nat.le_of_ble_eq_true rfl, Nat.le_of_ble_eq_true rfl⟩ rfl hl.1 rfl (Nat.le_of_ble_eq_true rfl) d_Ref_quotient_124 ⟨Nat.zero_le _, Nat.zero_le _⟩ (fun H locs hP hS => ?_)
          refine lv_iload hx hb d_Ref_quotient_127 (lv_at hl 0 rfl) ?_
          refine lv_aload_n hx hb d_Ref_quotient_129 rfl (lv_at hl 3 rfl) ?_
          refine rg_ 11 hq hP (by decide) wt_495 rfl rfl d_Ref_quotient_130 ?_
          refine lv_iadd hx hb d_Ref_quotient_133 ?_
          refine lv_istore (lv' := [(8, .int ((-(q_Ref_split_we wi fr bi a1)) + (q_Ref_split_we wi fr bi a0))), (6, .long (q_Ref_split_am wi fr bi a1)), (5, .int (if (q_Ref_isMinus wi a0) = (q_Ref_isMinus wi a1) then (0 : Int32) else (1 : Int32))), (0, .ref o), (1, .long a0), (3, .long a1)]) hx hb d_Ref_quotient_134 hl (by decide) rfl (fun ls hl => ?_)
          refine lv_aload_n hx hb d_Ref_quotient_136 rfl (lv_at hl 3 rfl) ?_
          refine rq_ (As := []) (rest := []) hq hA hP hS (c_Ref_clear l A ad D cB cJ o r hne hA cd la lo hi re wi fr bi (q_Ref_split_mi wi fr bi a0) (q_Ref_split_am wi fr bi a0) (q_Ref_split_we wi fr bi a0) f N hf hI) kB_Ref_clear wt_607 ⟨rfl, rfl, Nat.le_of_ble_eq_true rfl, Nat.le_of_ble_eq_true rfl⟩ rfl hl.1 rfl (Nat.le_of_ble_eq_true rfl) d_Ref_quotient_137 ⟨Nat.zero_le _, Nat.zero_le _⟩ (fun v9 fs9 f_6 H locs hk9 hP hS => ?_)
          obtain ⟨rfl, rfl, hf_6⟩ := hk9
          refine lv_lconst (v := (0 : Int64)) hx hb d_Ref_quotient_140 (by decide) ?_
          refine lv_lstore (lv' := [(9, .long (0 : Int64)), (8, .int ((-(q_Ref_split_we wi fr bi a1)) + (q_Ref_split_we wi fr bi a0))), (6, .long (q_Ref_split_am wi fr bi a1)), (5, .int (if (q_Ref_isMinus wi a0) = (q_Ref_isMinus wi a1) then (0 : Int32) else (1 : Int32))), (0, .ref o), (1, .long a0), (3, .long a1)]) hx hb d_Ref_quotient_141 hl (by decide) rfl (fun ls hl => ?_)
          refine lv_bipush (v := (52 : Int32)) hx hb d_Ref_quotient_143 (by decide) ?_
          refine lv_istore (lv' := [(11, .int (52 : Int32)), (9, .long (0 : Int64)), (8, .int ((-(q_Ref_split_we wi fr bi a1)) + (q_Ref_split_we wi fr bi a0))), (6, .long (q_Ref_split_am wi fr bi a1)), (5, .int (if (q_Ref_isMinus wi a0) = (q_Ref_isMinus wi a1) then (0 : Int32) else (1 : Int32))), (0, .ref o), (1, .long a0), (3, .long a1)]) hx hb d_Ref_quotient_145 hl (by decide) rfl (fun ls hl => ?_)
          have hl2 := lv_sub (l' := [(11, .int (52 : Int32)), (9, .long (0 : Int64)), (8, .int ((-(q_Ref_split_we wi fr bi a1)) + (q_Ref_split_we wi fr bi a0))), (6, .long (q_Ref_split_am wi fr bi a1)), (5, .int (if (q_Ref_isMinus wi a0) = (q_Ref_isMinus wi a1) then (0 : Int32) else (1 : Int32))), (0, .ref o)]) hl [0, 1, 2, 3, 4, 5] rfl
          rw [un_lN (q_Ref_split_am wi fr bi a1)] at hl2
          have hP2 := hP
          rw [un_lN (q_Ref_split_am wi fr bi a0)] at hP2
          exact lp_Ref_quotient hq hne hA hr hk cd la wi fr bi (q_Ref_split_mi wi fr bi a0) (q_Ref_split_we wi fr bi a0) F B hfm (un_ (q_Ref_split_am wi fr bi a0)) (un_ (q_Ref_split_am wi fr bi a1)) (w3_ (q_Ref_split_we wi fr bi a0) (q_Ref_split_we wi fr bi a1)) ((-(q_Ref_split_we wi fr bi a1)) + (q_Ref_split_we wi fr bi a0)) (if (q_Ref_isMinus wi a0) = (q_Ref_isMinus wi a1) then (0 : Int32) else (1 : Int32)) (am_lt hfm _) (am_lt hfm _) (am_pos hfm c_3) (am_pos hfm c_4) (sp_P3 hfm a0 a1).1 (by have := (sp_P3 hfm a0 a1).2; omega) (by have := (sp_P3 hfm a0 a1).2; omega) _ (by unfold q_Ref_quotient; exact ((if_pos c_2).trans ((if_pos c_3).trans ((if_pos c_4).trans ((if_pos c_5).trans rfl))))) 163 0 0 _ _ f_6 H locs ls (by omega) (by rw [Nat.sub_self, Nat.pow_zero, Nat.mul_one, Nat.mul_zero, Nat.div_eq_of_lt (am_lt hfm _)]) (am_pos hfm c_4) (by decide) (by rw [Nat.zero_mul]; exact hf_6) (by rw [Nat.zero_mul]; exact ri_0) hl2 hP2 hS
      · refine lv_aload_n hx hb d_Ref_quotient_73 rfl (lv_at hl 1 rfl) ?_
        refine lv_iload hx hb d_Ref_quotient_74 (lv_at hl 0 rfl) ?_
        refine rv_l (As := [.int (if (q_Ref_isMinus wi a0) = (q_Ref_isMinus wi a1) then (0 : Int32) else (1 : Int32))]) (rest := []) hq hA hP hS (c_Ref_infinite l A ad D cB cJ o r hne hA cd la lo hi re wi fr bi mi am we f (if (q_Ref_isMinus wi a0) = (q_Ref_isMinus wi a1) then (0 : Int32) else (1 : Int32))) kB_Ref_infinite wt_574 ⟨rfl, rfl, Nat.le_of_ble_eq_true rfl, Nat.le_of_ble_eq_true rfl⟩ rfl hl.1 rfl (Nat.le_of_ble_eq_true rfl) d_Ref_quotient_76 ⟨Nat.zero_le _, Nat.zero_le _⟩ (fun H locs hP hS => ?_)
        exact qr_l hq hr hk hP hS ⟨congrArg (fun z => some (Value.long z)) (by unfold q_Ref_quotient; exact (((if_pos c_2).trans ((if_pos c_3).trans ((if_neg c_4).trans rfl)))).symm), _, _, _, _, _, _, _, _, _, _, rfl, hre, hf, hI⟩ d_Ref_quotient_79
    · refine lv_aload_n hx hb d_Ref_quotient_44 rfl (lv_at hl 1 rfl) ?_
      refine lv_lload_n hx hb d_Ref_quotient_45 rfl (lv_at hl 3 rfl) ?_
      refine rv_i (As := [.long a1]) (rest := []) hq hA hP hS (c_Ref_isZero l A ad D cB cJ o r hne hA cd la lo hi re wi fr bi mi am we f a1) kB_Ref_isZero wt_635 ⟨rfl, rfl, Nat.le_of_ble_eq_true rfl, Nat.le_of_ble_eq_true rfl⟩ rfl hl.1 rfl (Nat.le_of_ble_eq_true rfl) d_Ref_quotient_46 ⟨Nat.zero_le _, Nat.zero_le _⟩ (fun H locs hP hS => ?_)
      refine lv_if_eq (tgt := 57) hx hb d_Ref_quotient_49 (by decide) (fun c_7 => ?_) (fun c_7 => ?_)
      · refine lv_aload_n hx hb d_Ref_quotient_57 rfl (lv_at hl 1 rfl) ?_
        refine lv_lload_n hx hb d_Ref_quotient_58 rfl (lv_at hl 2 rfl) ?_
        refine rv_i (As := [.long a0]) (rest := []) hq hA hP hS (c_Ref_isInfinite l A ad D cB cJ o r hne hA cd la lo hi re wi fr bi mi am we f a0) kB_Ref_isInfinite wt_583 ⟨rfl, rfl, Nat.le_of_ble_eq_true rfl, Nat.le_of_ble_eq_true rfl⟩ rfl hl.1 rfl (Nat.le_of_ble_eq_true rfl) d_Ref_quotient_59 ⟨Nat.zero_le _, Nat.zero_le _⟩ (fun H locs hP hS => ?_)
        refine lv_if_ne (tgt := 73) hx hb d_Ref_quotient_62 (by decide) (fun c9 => absurd c_2 c9) (fun _ => ?_)
        refine lv_aload_n hx hb d_Ref_quotient_65 rfl (lv_at hl 1 rfl) ?_
        refine lv_lload_n hx hb d_Ref_quotient_66 rfl (lv_at hl 3 rfl) ?_
        refine rv_i (As := [.long a1]) (rest := []) hq hA hP hS (c_Ref_isZero l A ad D cB cJ o r hne hA cd la lo hi re wi fr bi mi am we f a1) kB_Ref_isZero wt_635 ⟨rfl, rfl, Nat.le_of_ble_eq_true rfl, Nat.le_of_ble_eq_true rfl⟩ rfl hl.1 rfl (Nat.le_of_ble_eq_true rfl) d_Ref_quotient_67 ⟨Nat.zero_le _, Nat.zero_le _⟩ (fun H locs hP hS => ?_)
        refine lv_if_eq (tgt := 80) hx hb d_Ref_quotient_70 (by decide) (fun _ => ?_) (fun c9 => absurd c_7 c9)
        refine lv_aload_n hx hb d_Ref_quotient_80 rfl (lv_at hl 1 rfl) ?_
        refine lv_lload_n hx hb d_Ref_quotient_81 rfl (lv_at hl 3 rfl) ?_
        refine rv_i (As := [.long a1]) (rest := []) hq hA hP hS (c_Ref_isInfinite l A ad D cB cJ o r hne hA cd la lo hi re wi fr bi mi am we f a1) kB_Ref_isInfinite wt_583 ⟨rfl, rfl, Nat.le_of_ble_eq_true rfl, Nat.le_of_ble_eq_true rfl⟩ rfl hl.1 rfl (Nat.le_of_ble_eq_true rfl) d_Ref_quotient_82 ⟨Nat.zero_le _, Nat.zero_le _⟩ (fun H locs hP hS => ?_)
        refine lv_if_ne (tgt := 96) hx hb d_Ref_quotient_85 (by decide) (fun c_8 => ?_) (fun c_8 => ?_)
        · refine lv_aload_n hx hb d_Ref_quotient_96 rfl (lv_at hl 1 rfl) ?_
          refine lv_lconst (v := (0 : Int64)) hx hb d_Ref_quotient_97 (by decide) ?_
          refine lv_iload hx hb d_Ref_quotient_98 (lv_at hl 0 rfl) ?_
          refine rv_l (As := [.long (0 : Int64), .int (if (q_Ref_isMinus wi a0) = (q_Ref_isMinus wi a1) then (0 : Int32) else (1 : Int32))]) (rest := []) hq hA hP hS (c_Ref_signed l A ad D cB cJ o r hne hA cd la lo hi re wi fr bi mi am we f (0 : Int64) (if (q_Ref_isMinus wi a0) = (q_Ref_isMinus wi a1) then (0 : Int32) else (1 : Int32))) kB_Ref_signed wt_579 ⟨rfl, rfl, Nat.le_of_ble_eq_true rfl, Nat.le_of_ble_eq_true rfl⟩ rfl hl.1 rfl (Nat.le_of_ble_eq_true rfl) d_Ref_quotient_100 ⟨Nat.zero_le _, Nat.zero_le _⟩ (fun H locs hP hS => ?_)
          exact qr_l hq hr hk hP hS ⟨congrArg (fun z => some (Value.long z)) (by unfold q_Ref_quotient; exact (((if_pos c_2).trans ((if_neg c_3).trans ((if_pos c_7).trans ((if_neg c_8).trans rfl))))).symm), _, _, _, _, _, _, _, _, _, _, rfl, hre, hf, hI⟩ d_Ref_quotient_103
        · refine lv_aload_n hx hb d_Ref_quotient_88 rfl (lv_at hl 1 rfl) ?_
          refine lv_lload_n hx hb d_Ref_quotient_89 rfl (lv_at hl 2 rfl) ?_
          refine rv_i (As := [.long a0]) (rest := []) hq hA hP hS (c_Ref_isZero l A ad D cB cJ o r hne hA cd la lo hi re wi fr bi mi am we f a0) kB_Ref_isZero wt_635 ⟨rfl, rfl, Nat.le_of_ble_eq_true rfl, Nat.le_of_ble_eq_true rfl⟩ rfl hl.1 rfl (Nat.le_of_ble_eq_true rfl) d_Ref_quotient_90 ⟨Nat.zero_le _, Nat.zero_le _⟩ (fun H locs hP hS => ?_)
          refine lv_if_eq (tgt := 104) hx hb d_Ref_quotient_93 (by decide) (fun c9 => absurd c9 c_3) (fun _ => ?_)
          refine lv_aload_n hx hb d_Ref_quotient_96 rfl (lv_at hl 1 rfl) ?_
          refine lv_lconst (v := (0 : Int64)) hx hb d_Ref_quotient_97 (by decide) ?_
          refine lv_iload hx hb d_Ref_quotient_98 (lv_at hl 0 rfl) ?_
          refine rv_l (As := [.long (0 : Int64), .int (if (q_Ref_isMinus wi a0) = (q_Ref_isMinus wi a1) then (0 : Int32) else (1 : Int32))]) (rest := []) hq hA hP hS (c_Ref_signed l A ad D cB cJ o r hne hA cd la lo hi re wi fr bi mi am we f (0 : Int64) (if (q_Ref_isMinus wi a0) = (q_Ref_isMinus wi a1) then (0 : Int32) else (1 : Int32))) kB_Ref_signed wt_579 ⟨rfl, rfl, Nat.le_of_ble_eq_true rfl, Nat.le_of_ble_eq_true rfl⟩ rfl hl.1 rfl (Nat.le_of_ble_eq_true rfl) d_Ref_quotient_100 ⟨Nat.zero_le _, Nat.zero_le _⟩ (fun H locs hP hS => ?_)
          exact qr_l hq hr hk hP hS ⟨congrArg (fun z => some (Value.long z)) (by unfold q_Ref_quotient; exact (((if_pos c_2).trans ((if_neg c_3).trans ((if_pos c_7).trans ((if_pos c_8).trans rfl))))).symm), _, _, _, _, _, _, _, _, _, _, rfl, hre, hf, hI⟩ d_Ref_quotient_103
      · refine lv_aload_n hx hb d_Ref_quotient_52 rfl (lv_at hl 1 rfl) ?_
        refine rv_l (As := []) (rest := []) hq hA hP hS (c_Ref_noNumber l A ad D cB cJ o r hne hA cd la lo hi re wi fr bi mi am we f ) kB_Ref_noNumber wt_639 ⟨rfl, rfl, Nat.le_of_ble_eq_true rfl, Nat.le_of_ble_eq_true rfl⟩ rfl hl.1 rfl (Nat.le_of_ble_eq_true rfl) d_Ref_quotient_53 ⟨Nat.zero_le _, Nat.zero_le _⟩ (fun H locs hP hS => ?_)
        exact qr_l hq hr hk hP hS ⟨congrArg (fun z => some (Value.long z)) (by unfold q_Ref_quotient; exact (((if_pos c_2).trans ((if_neg c_3).trans ((if_neg c_7).trans rfl)))).symm), _, _, _, _, _, _, _, _, _, _, rfl, hre, hf, hI⟩ d_Ref_quotient_56
  · refine lv_aload_n hx hb d_Ref_quotient_28 rfl (lv_at hl 1 rfl) ?_
    refine lv_lload_n hx hb d_Ref_quotient_29 rfl (lv_at hl 3 rfl) ?_
    refine rv_i (As := [.long a1]) (rest := []) hq hA hP hS (c_Ref_isInfinite l A ad D cB cJ o r hne hA cd la lo hi re wi fr bi mi am we f a1) kB_Ref_isInfinite wt_583 ⟨rfl, rfl, Nat.le_of_ble_eq_true rfl, Nat.le_of_ble_eq_true rfl⟩ rfl hl.1 rfl (Nat.le_of_ble_eq_true rfl) d_Ref_quotient_30 ⟨Nat.zero_le _, Nat.zero_le _⟩ (fun H locs hP hS => ?_)
    refine lv_if_ne (tgt := 52) hx hb d_Ref_quotient_33 (by decide) (fun c_9 => ?_) (fun c_9 => ?_)
    · refine lv_aload_n hx hb d_Ref_quotient_52 rfl (lv_at hl 1 rfl) ?_
      refine rv_l (As := []) (rest := []) hq hA hP hS (c_Ref_noNumber l A ad D cB cJ o r hne hA cd la lo hi re wi fr bi mi am we f ) kB_Ref_noNumber wt_639 ⟨rfl, rfl, Nat.le_of_ble_eq_true rfl, Nat.le_of_ble_eq_true rfl⟩ rfl hl.1 rfl (Nat.le_of_ble_eq_true rfl) d_Ref_quotient_53 ⟨Nat.zero_le _, Nat.zero_le _⟩ (fun H locs hP hS => ?_)
      exact qr_l hq hr hk hP hS ⟨congrArg (fun z => some (Value.long z)) (by unfold q_Ref_quotient; exact (((if_neg c_2).trans ((if_neg c_9).trans rfl))).symm), _, _, _, _, _, _, _, _, _, _, rfl, hre, hf, hI⟩ d_Ref_quotient_56
    · refine lv_aload_n hx hb d_Ref_quotient_36 rfl (lv_at hl 1 rfl) ?_
      refine lv_lload_n hx hb d_Ref_quotient_37 rfl (lv_at hl 2 rfl) ?_
      refine rv_i (As := [.long a0]) (rest := []) hq hA hP hS (c_Ref_isZero l A ad D cB cJ o r hne hA cd la lo hi re wi fr bi mi am we f a0) kB_Ref_isZero wt_635 ⟨rfl, rfl, Nat.le_of_ble_eq_true rfl, Nat.le_of_ble_eq_true rfl⟩ rfl hl.1 rfl (Nat.le_of_ble_eq_true rfl) d_Ref_quotient_38 ⟨Nat.zero_le _, Nat.zero_le _⟩ (fun H locs hP hS => ?_)
      refine lv_if_eq (tgt := 57) hx hb d_Ref_quotient_41 (by decide) (fun c_10 => ?_) (fun c_10 => ?_)
      · refine lv_aload_n hx hb d_Ref_quotient_57 rfl (lv_at hl 1 rfl) ?_
        refine lv_lload_n hx hb d_Ref_quotient_58 rfl (lv_at hl 2 rfl) ?_
        refine rv_i (As := [.long a0]) (rest := []) hq hA hP hS (c_Ref_isInfinite l A ad D cB cJ o r hne hA cd la lo hi re wi fr bi mi am we f a0) kB_Ref_isInfinite wt_583 ⟨rfl, rfl, Nat.le_of_ble_eq_true rfl, Nat.le_of_ble_eq_true rfl⟩ rfl hl.1 rfl (Nat.le_of_ble_eq_true rfl) d_Ref_quotient_59 ⟨Nat.zero_le _, Nat.zero_le _⟩ (fun H locs hP hS => ?_)
        refine lv_if_ne (tgt := 73) hx hb d_Ref_quotient_62 (by decide) (fun _ => ?_) (fun c9 => absurd c9 c_2)
        refine lv_aload_n hx hb d_Ref_quotient_73 rfl (lv_at hl 1 rfl) ?_
        refine lv_iload hx hb d_Ref_quotient_74 (lv_at hl 0 rfl) ?_
        refine rv_l (As := [.int (if (q_Ref_isMinus wi a0) = (q_Ref_isMinus wi a1) then (0 : Int32) else (1 : Int32))]) (rest := []) hq hA hP hS (c_Ref_infinite l A ad D cB cJ o r hne hA cd la lo hi re wi fr bi mi am we f (if (q_Ref_isMinus wi a0) = (q_Ref_isMinus wi a1) then (0 : Int32) else (1 : Int32))) kB_Ref_infinite wt_574 ⟨rfl, rfl, Nat.le_of_ble_eq_true rfl, Nat.le_of_ble_eq_true rfl⟩ rfl hl.1 rfl (Nat.le_of_ble_eq_true rfl) d_Ref_quotient_76 ⟨Nat.zero_le _, Nat.zero_le _⟩ (fun H locs hP hS => ?_)
        exact qr_l hq hr hk hP hS ⟨congrArg (fun z => some (Value.long z)) (by unfold q_Ref_quotient; exact (((if_neg c_2).trans ((if_pos c_9).trans ((if_pos c_10).trans rfl)))).symm), _, _, _, _, _, _, _, _, _, _, rfl, hre, hf, hI⟩ d_Ref_quotient_79
      · refine lv_aload_n hx hb d_Ref_quotient_44 rfl (lv_at hl 1 rfl) ?_
        refine lv_lload_n hx hb d_Ref_quotient_45 rfl (lv_at hl 3 rfl) ?_
        refine rv_i (As := [.long a1]) (rest := []) hq hA hP hS (c_Ref_isZero l A ad D cB cJ o r hne hA cd la lo hi re wi fr bi mi am we f a1) kB_Ref_isZero wt_635 ⟨rfl, rfl, Nat.le_of_ble_eq_true rfl, Nat.le_of_ble_eq_true rfl⟩ rfl hl.1 rfl (Nat.le_of_ble_eq_true rfl) d_Ref_quotient_46 ⟨Nat.zero_le _, Nat.zero_le _⟩ (fun H locs hP hS => ?_)
        refine lv_if_eq (tgt := 57) hx hb d_Ref_quotient_49 (by decide) (fun c_11 => ?_) (fun c_11 => ?_)
        · refine lv_aload_n hx hb d_Ref_quotient_57 rfl (lv_at hl 1 rfl) ?_
          refine lv_lload_n hx hb d_Ref_quotient_58 rfl (lv_at hl 2 rfl) ?_
          refine rv_i (As := [.long a0]) (rest := []) hq hA hP hS (c_Ref_isInfinite l A ad D cB cJ o r hne hA cd la lo hi re wi fr bi mi am we f a0) kB_Ref_isInfinite wt_583 ⟨rfl, rfl, Nat.le_of_ble_eq_true rfl, Nat.le_of_ble_eq_true rfl⟩ rfl hl.1 rfl (Nat.le_of_ble_eq_true rfl) d_Ref_quotient_59 ⟨Nat.zero_le _, Nat.zero_le _⟩ (fun H locs hP hS => ?_)
          refine lv_if_ne (tgt := 73) hx hb d_Ref_quotient_62 (by decide) (fun _ => ?_) (fun c9 => absurd c9 c_2)
          refine lv_aload_n hx hb d_Ref_quotient_73 rfl (lv_at hl 1 rfl) ?_
          refine lv_iload hx hb d_Ref_quotient_74 (lv_at hl 0 rfl) ?_
          refine rv_l (As := [.int (if (q_Ref_isMinus wi a0) = (q_Ref_isMinus wi a1) then (0 : Int32) else (1 : Int32))]) (rest := []) hq hA hP hS (c_Ref_infinite l A ad D cB cJ o r hne hA cd la lo hi re wi fr bi mi am we f (if (q_Ref_isMinus wi a0) = (q_Ref_isMinus wi a1) then (0 : Int32) else (1 : Int32))) kB_Ref_infinite wt_574 ⟨rfl, rfl, Nat.le_of_ble_eq_true rfl, Nat.le_of_ble_eq_true rfl⟩ rfl hl.1 rfl (Nat.le_of_ble_eq_true rfl) d_Ref_quotient_76 ⟨Nat.zero_le _, Nat.zero_le _⟩ (fun H locs hP hS => ?_)
          exact qr_l hq hr hk hP hS ⟨congrArg (fun z => some (Value.long z)) (by unfold q_Ref_quotient; exact (((if_neg c_2).trans ((if_pos c_9).trans ((if_neg c_10).trans ((if_pos c_11).trans rfl))))).symm), _, _, _, _, _, _, _, _, _, _, rfl, hre, hf, hI⟩ d_Ref_quotient_79
        · refine lv_aload_n hx hb d_Ref_quotient_52 rfl (lv_at hl 1 rfl) ?_
          refine rv_l (As := []) (rest := []) hq hA hP hS (c_Ref_noNumber l A ad D cB cJ o r hne hA cd la lo hi re wi fr bi mi am we f ) kB_Ref_noNumber wt_639 ⟨rfl, rfl, Nat.le_of_ble_eq_true rfl, Nat.le_of_ble_eq_true rfl⟩ rfl hl.1 rfl (Nat.le_of_ble_eq_true rfl) d_Ref_quotient_53 ⟨Nat.zero_le _, Nat.zero_le _⟩ (fun H locs hP hS => ?_)
          exact qr_l hq hr hk hP hS ⟨congrArg (fun z => some (Value.long z)) (by unfold q_Ref_quotient; exact (((if_neg c_2).trans ((if_pos c_9).trans ((if_neg c_10).trans ((if_neg c_11).trans rfl))))).symm), _, _, _, _, _, _, _, _, _, _, rfl, hre, hf, hI⟩ d_Ref_quotient_56
