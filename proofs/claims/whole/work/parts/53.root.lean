theorem dv2_ {h : Int} (hh : -5000 ≤ h ∧ h ≤ 5000) : zI (2 * h) / (2 : Int32) = zI h := by
  apply Int32.toInt_inj.mp
  rw [Int32.toInt_div_of_ne_right _ _ (by decide), zI_t ⟨by omega, by omega⟩, zI_t ⟨by omega, by omega⟩, show (2 : Int32).toInt = 2 from rfl, Int.mul_tdiv_cancel_left _ (by decide)]
theorem ro_fit {x P d : Nat} (hx : x < 2 ^ (57 - (d + 1))) (hd : d < 57) (hP : P ≤ 4140) : x * 2 ^ (P + (d + 1)) + un_ (1 : Int64) * 2 ^ (P + d) < 2 ^ 4399 := qu_fit (Nat.lt_of_lt_of_le hx (Nat.pow_le_pow_right (by decide) (by omega))) (by omega) hP
set_option maxHeartbeats 4000000 in
set_option maxRecDepth 100000 in
theorem lp_Ref_root2 {p : Program} {l : Launch} {e : Env} {s : State} {m : MethodId} {args : Array Value} {below : List Frame} {meth : Method} {c : Code} {A : Nat → Prop} {ad : Nat → Nat} {D : va_G} {cB cJ : ClassId} {o r : Nat} (hq : FR p s m args c A ad D cB cJ b_Ref_root 10 y_Ref_root.cls) (hne : o ≠ r) (hA : ∀ q, rA o r q → A q) (hr : meth.sig.returnType = some .long) (hk : meth.locks = false) (cd : Int32) (la : Int64) (wi fr bi mi : Int32) (F B : Nat) (hfm : fmR wi fr bi F B) (X P : Nat) (h : Int) (hX : X < 4 ^ 27) (hX0 : 4 ^ 26 ≤ X) (hh : -2000 ≤ h ∧ h ≤ 1900) (hP : P = (2170 + h).toNat) (w : Int64) (hw : w = q_Ref_signed wi (lN (rR_ F B (2 * ((ro_ X 57).1 * 2 ^ P) + (if (ro_ X 57).2 = 0 then 0 else 1)) (-2201))) 0) :
    ∀ (d i : Nat) (lo hi : Int32) (f : Nat → Int32) (H : Heap) (locs : List Loc) (ls : Array Slot), i + d = 57 → RowIs f ((ro_ X i).1 * 2 ^ (P + d)) → RI lo hi ((ro_ X i).1 * 2 ^ (P + d)) → lv_has ls 10 [(7, .int (zI (26 - (i : Int)))), (5, .long (lN (ro_ X i).1)), (3, .long (lN (ro_ X i).2)), (0, .ref o)] → va_P D clR (rw_ o r cB (rf_ cd la r lo hi 0 wi fr bi mi (lN X) (zI (2 * h))) f) H → va_S (rA o r) s.heap H locs → W p l e ({ frames := 3, cells := 0, slots := 0, locals := 73 } : Room) s m args below meth c H locs 0 0 (MQ below (QP D cB o r (fun v fs' f' => v = some (.long w) ∧ SJ r cd la fs' f')) args s 0 0 (rA o r)) (F0 m 115 ls []) := by
  have hx := hq.1
  have hb := hq.2.1
  have hts := hq.2.2.2.2.1
  intro d
  induction d with
  | zero =>
    intro i lo hi f H locs ls hd hf hI hl hP9 hS
    have hi : i = 57 := by omega
    subst hi
    have hP := hP9
    have hl : lv_has ls 10 [(7, .int (-31 : Int32)), (5, .long (lN (ro_ X 57).1)), (3, .long (lN (ro_ X 57).2)), (0, .ref o)] := hl
    rw [Nat.add_zero] at hf hI
    obtain ⟨-, iv2, iv3⟩ := ro_inv hX 57
    have hpos : 0 < (ro_ X 57).1 * 2 ^ P := Nat.mul_pos (ro_pos hX0 hX) (Nat.two_pow_pos P)
    refine lv_iload hx hb d_Ref_root_115 (lv_at hl 0 rfl) ?_
    refine lv_bipush (v := (-30 : Int32)) hx hb d_Ref_root_117 (by decide) ?_
    refine lv_icmp_lt (tgt := 205) hx hb d_Ref_root_119 (by decide) (fun _ => ?_) (fun c9 => absurd (by decide) c9)
    refine lv_aload_n hx hb d_Ref_root_205 rfl (lv_at hl 3 rfl) ?_
    refine lv_lload_n hx hb d_Ref_root_206 rfl (lv_at hl 2 rfl) ?_
    refine lv_lconst (v := (0 : Int64)) hx hb d_Ref_root_207 (by decide) ?_
    refine W.lcmp hx hb d_Ref_root_208 ?_
    refine jn_ (J := 217) (ls := ls) (v := .int (if (lN (ro_ X 57).2) = (0 : Int64) then (0 : Int32) else (1 : Int32))) (rest := [.ref o]) (fun hj => ?_) ?_
    · refine lv_if_eq (tgt := 216) hx hb d_Ref_root_209 (by decide) (fun c_1 => ?_) (fun c_1 => ?_)
      · rw [lg_cmp_eq] at c_1
        refine lv_iconst (v := (0 : Int32)) hx hb d_Ref_root_216 (by decide) ?_
        exact (by rw [if_pos c_1] at hj; exact hj)
      · rw [lg_cmp_eq] at c_1
        refine lv_iconst (v := (1 : Int32)) hx hb d_Ref_root_212 (by decide) ?_
        refine lv_goto (tgt := 217) hx hb d_Ref_root_213 (by decide) ?_
        exact (by rw [if_neg c_1] at hj; exact hj)
    refine rp_ 5 (ty := tR 5) hq hne hP hS (by decide) wt_489 rfl rfl rfl (nb_ (by (repeat' split) <;> first | exact Or.inl rfl | exact Or.inr rfl)) (nf_ (by (repeat' split) <;> first | exact Or.inl rfl | exact Or.inr rfl)) (Nat.le_of_ble_eq_true rfl) d_Ref_root_217 (fun H locs hP hS => ?_)
    have hP : va_P D clR (rw_ o r cB (rf_ cd la r lo hi (if (lN (ro_ X 57).2) = (0 : Int64) then (0 : Int32) else (1 : Int32)) wi fr bi mi (lN X) (zI (2 * h))) f) H := hP
    refine lv_aload_n hx hb d_Ref_root_220 rfl (lv_at hl 3 rfl) ?_
    refine lv_iconst (v := (0 : Int32)) hx hb d_Ref_root_221 (by decide) ?_
    have hz9 : (if (lN (ro_ X 57).2) = (0 : Int64) then (0 : Int32) else (1 : Int32)) = 0 ∨ (if (lN (ro_ X 57).2) = (0 : Int64) then (0 : Int32) else (1 : Int32)) = 1 := by (repeat' split) <;> first | exact Or.inl rfl | exact Or.inr rfl
    refine rv_l (As := [.int (0 : Int32)]) (rest := []) hq hA hP hS (c_Ref_rounded l A ad D cB cJ o r hne hA cd la lo hi (if (lN (ro_ X 57).2) = (0 : Int64) then (0 : Int32) else (1 : Int32)) wi fr bi mi (lN X) (zI (2 * h)) f 0 ((ro_ X 57).1 * 2 ^ P) F B hf hI hpos hz9 (fmR_f hfm) (fmR_b hfm) (fmR_FB hfm)) kB_Ref_rounded wt_619 ⟨rfl, rfl, Nat.le_of_ble_eq_true rfl, Nat.le_of_ble_eq_true rfl⟩ rfl hl.1 rfl (Nat.le_of_ble_eq_true rfl) d_Ref_root_222 ⟨Nat.zero_le _, Nat.zero_le _⟩ (fun H locs hP hS => ?_)
    have hw2 : q_Ref_signed wi (lN (rR_ F B (2 * ((ro_ X 57).1 * 2 ^ P) + (if (if (lN (ro_ X 57).2) = (0 : Int64) then (0 : Int32) else (1 : Int32)) = 0 then 0 else 1)) (-2201))) 0 = w := by
      rw [hw]
      by_cases g : (ro_ X 57).2 = 0
      · rw [if_pos g, if_pos (show lN (ro_ X 57).2 = (0 : Int64) by rw [g]; rfl)]; rfl
      · rw [if_neg g, if_neg (fun q => g ((lN_z64 (by omega)).mp q))]; rfl
    exact qr_l hq hr hk hP hS ⟨congrArg (fun z => some (Value.long z)) hw2, _, _, _, _, _, _, _, _, _, _, rfl, hz9, hf, hI⟩ d_Ref_root_225
  | succ d ih =>
    intro i lo hi f H locs ls hd hf hI hl hP9 hS
    have hPP := hP
    have hP := hP9
    obtain ⟨-, iv2, iv3⟩ := ro_inv hX i
    have hro : ro_ X (i + 1) = if 4 * (ro_ X i).1 + 1 ≤ 4 * (ro_ X i).2 + X * 4 ^ (i + 1) / 4 ^ 27 % 4 then (2 * (ro_ X i).1 + 1, 4 * (ro_ X i).2 + X * 4 ^ (i + 1) / 4 ^ 27 % 4 - (4 * (ro_ X i).1 + 1)) else (2 * (ro_ X i).1, 4 * (ro_ X i).2 + X * 4 ^ (i + 1) / 4 ^ 27 % 4) := rfl
    have hbits := ro_bits (X := X) (i := i) (k := (zI (26 - (i : Int)))) hX (by omega) rfl
    have hc4 : X * 4 ^ (i + 1) / 4 ^ 27 % 4 < 4 := Nat.mod_lt _ (by decide)
    have hx57 : 2 ^ i ≤ 2 ^ 57 := Nat.pow_le_pow_right (by decide) (by omega)
    generalize X * 4 ^ (i + 1) / 4 ^ 27 % 4 = cc9 at *
    generalize hxe : (ro_ X i).1 = x at *
    generalize hre : (ro_ X i).2 = rr at *
    refine lv_iload hx hb d_Ref_root_115 (lv_at hl 0 rfl) ?_
    refine lv_bipush (v := (-30 : Int32)) hx hb d_Ref_root_117 (by decide) ?_
    refine lv_icmp_lt (tgt := 205) hx hb d_Ref_root_119 (by decide) (fun c9 => absurd c9 (by rw [show (-30 : Int32) = zI (-30) from rfl, zI_lt ⟨by omega, by omega⟩ ⟨by omega, by omega⟩]; omega)) (fun _ => ?_)
    refine lv_ldc2 (v := (4 : Int64)) hx hb hq.2.2.2.1 (hts _ wt_657) d_Ref_root_122 ?_
    refine lv_lload_n hx hb d_Ref_root_125 rfl (lv_at hl 2 rfl) ?_
    refine lv_lmul hx hb d_Ref_root_126 ?_
    refine lv_iload hx hb d_Ref_root_127 (lv_at hl 0 rfl) ?_
    refine jn_ (J := 149) (ls := ls) (v := .long (if 0 ≤ (zI (26 - (i : Int))) then ((shr_ (lN X) ((2 : Int32) * (zI (26 - (i : Int))))) &&& (3 : Int64)) else (0 : Int64))) (rest := [.long ((4 : Int64) * (lN rr))]) (fun hj => ?_) ?_
    · refine lv_if_ge (tgt := 136) hx hb d_Ref_root_129 (by decide) (fun c_41 => ?_) (fun c_41 => ?_)
      · refine lv_aload_n hx hb d_Ref_root_136 rfl (lv_at hl 3 rfl) ?_
        refine rg_ 10 hq hP (by decide) wt_494 rfl rfl d_Ref_root_137 ?_
        refine lv_iconst (v := (2 : Int32)) hx hb d_Ref_root_140 (by decide) ?_
        refine lv_iload hx hb d_Ref_root_141 (lv_at hl 0 rfl) ?_
        refine lv_imul hx hb d_Ref_root_143 ?_
        refine lv_lshr (v := (shr_ (lN X) ((2 : Int32) * (zI (26 - (i : Int)))))) hx hb d_Ref_root_144 rfl ?_
        refine lv_ldc2 (v := (3 : Int64)) hx hb hq.2.2.2.1 (hts _ wt_658) d_Ref_root_145 ?_
        refine lv_land hx hb d_Ref_root_148 ?_
        exact (by rw [if_pos c_41] at hj; exact hj)
      · refine lv_lconst (v := (0 : Int64)) hx hb d_Ref_root_132 (by decide) ?_
        refine lv_goto (tgt := 149) hx hb d_Ref_root_133 (by decide) ?_
        exact (by rw [if_neg c_41] at hj; exact hj)
    refine lv_ladd hx hb d_Ref_root_149 ?_
    have hnew : (((4 : Int64) * (lN rr)) + (if 0 ≤ (zI (26 - (i : Int))) then ((shr_ (lN X) ((2 : Int32) * (zI (26 - (i : Int))))) &&& (3 : Int64)) else (0 : Int64))) = lN (4 * rr + cc9) := by rw [hbits, show (4 : Int64) = lN 4 from rfl, lN_mul, lN_add]
    rw [hnew]
    refine lv_lstore_n (lv' := [(3, .long (lN (4 * rr + cc9))), (7, .int (zI (26 - (i : Int)))), (5, .long (lN x)), (0, .ref o)]) hx hb d_Ref_root_150 rfl hl (by decide) rfl (fun ls hl => ?_)
    refine lv_ldc2 (v := (4 : Int64)) hx hb hq.2.2.2.1 (hts _ wt_657) d_Ref_root_151 ?_
    refine lv_lload hx hb d_Ref_root_154 (lv_at hl 2 rfl) ?_
    refine lv_lmul hx hb d_Ref_root_156 ?_
    refine lv_lconst (v := (1 : Int64)) hx hb d_Ref_root_157 (by decide) ?_
    refine lv_ladd hx hb d_Ref_root_158 ?_
    rw [show (4 : Int64) * lN x + 1 = lN (4 * x + 1) by rw [show (4 : Int64) = lN 4 from rfl, lN_mul, lN_1]]
    refine lv_lstore (lv' := [(8, .long (lN (4 * x + 1))), (3, .long (lN (4 * rr + cc9))), (7, .int (zI (26 - (i : Int)))), (5, .long (lN x)), (0, .ref o)]) hx hb d_Ref_root_159 hl (by decide) rfl (fun ls hl => ?_)
    refine lv_lload hx hb d_Ref_root_161 (lv_at hl 3 rfl) ?_
    refine lv_iconst (v := (1 : Int32)) hx hb d_Ref_root_163 (by decide) ?_
    refine lv_lshl (v := (shl_ (lN x) (1 : Int32))) hx hb d_Ref_root_164 rfl ?_
    rw [show shl_ (lN x) 1 = lN (2 * x) by rw [show (1 : Int32) = nI 1 from rfl, shl_lN x (by decide)]; congr 1; omega]
    refine lv_lstore (lv' := [(5, .long (lN (2 * x))), (8, .long (lN (4 * x + 1))), (3, .long (lN (4 * rr + cc9))), (7, .int (zI (26 - (i : Int)))), (0, .ref o)]) hx hb d_Ref_root_165 hl (by decide) rfl (fun ls hl => ?_)
    refine lv_lload_n hx hb d_Ref_root_167 rfl (lv_at hl 2 rfl) ?_
    refine lv_lload hx hb d_Ref_root_168 (lv_at hl 1 rfl) ?_
    refine W.lcmp hx hb d_Ref_root_170 ?_
    by_cases hge : 4 * x + 1 ≤ 4 * rr + cc9
    · rw [if_pos hge] at hro
      refine lv_if_lt (tgt := 199) hx hb d_Ref_root_171 (by decide) (fun c9 => absurd ((lg_cmp_lt _ _).mp c9) (fun q => by have := (pk_lLT (by omega) (by omega)).mp q; omega)) (fun _ => ?_)
      refine lv_lload_n hx hb d_Ref_root_174 rfl (lv_at hl 2 rfl) ?_
      refine lv_lload hx hb d_Ref_root_175 (lv_at hl 1 rfl) ?_
      refine lv_lsub hx hb d_Ref_root_177 ?_
      rw [lN_sub hge]
      refine lv_lstore_n (lv' := [(3, .long (lN (4 * rr + cc9 - (4 * x + 1)))), (5, .long (lN (2 * x))), (8, .long (lN (4 * x + 1))), (7, .int (zI (26 - (i : Int)))), (0, .ref o)]) hx hb d_Ref_root_178 rfl hl (by decide) rfl (fun ls hl => ?_)
      refine lv_lload hx hb d_Ref_root_179 (lv_at hl 1 rfl) ?_
      refine lv_lconst (v := (1 : Int64)) hx hb d_Ref_root_181 (by decide) ?_
      refine lv_ladd hx hb d_Ref_root_182 ?_
      rw [lN_1]
      refine lv_lstore (lv' := [(5, .long (lN (2 * x + 1))), (3, .long (lN (4 * rr + cc9 - (4 * x + 1)))), (8, .long (lN (4 * x + 1))), (7, .int (zI (26 - (i : Int)))), (0, .ref o)]) hx hb d_Ref_root_183 hl (by decide) rfl (fun ls hl => ?_)
      refine lv_aload_n hx hb d_Ref_root_185 rfl (lv_at hl 4 rfl) ?_
      refine lv_lconst (v := (1 : Int64)) hx hb d_Ref_root_186 (by decide) ?_
      refine lv_aload_n hx hb d_Ref_root_187 rfl (lv_at hl 4 rfl) ?_
      refine rg_ 11 hq hP (by decide) wt_495 rfl rfl d_Ref_root_188 ?_
      refine lv_iconst (v := (2 : Int32)) hx hb d_Ref_root_191 (by decide) ?_
      refine lv_idiv hx hb d_Ref_root_192 (by decide) ?_
      rw [dv2_ (by omega)]
      refine lv_iload hx hb d_Ref_root_193 (lv_at hl 3 rfl) ?_
      refine lv_iadd hx hb d_Ref_root_195 ?_
      have hP2 : (2200 : Int32) + (zI h + (zI (26 - (i : Int)))) = nI (P + d) := by
        rw [show (2200 : Int32) = zI 2200 from rfl, zI_add, zI_add, ← zI_n]; congr 1; omega
      have hxb : x < 2 ^ (57 - (d + 1)) := Nat.lt_of_lt_of_le iv3 (Nat.pow_le_pow_right (by decide) (by omega))
      refine rq_ (As := [.long (1 : Int64), .int (zI h + (zI (26 - (i : Int))))]) (rest := []) hq hA hP hS (c_Ref_addX l A ad D cB cJ o r hne hA cd la lo hi 0 wi fr bi mi (lN X) (zI (2 * h)) f (x * 2 ^ (P + (d + 1))) hf hI 1 (zI h + (zI (26 - (i : Int)))) (P + d) hP2 (by omega) (ro_fit hxb (by omega) (by omega))) kB_Ref_add wt_611 ⟨rfl, rfl, Nat.le_of_ble_eq_true rfl, Nat.le_of_ble_eq_true rfl⟩ rfl hl.1 rfl (Nat.le_of_ble_eq_true rfl) d_Ref_root_196 ⟨Nat.zero_le _, Nat.zero_le _⟩ (fun v9 fs9 f9 H locs hk9 hP hS => ?_)
      obtain ⟨rfl, lo9, hi9, rfl, hf9, hI9⟩ := hk9
      have hN9 : x * 2 ^ (P + (d + 1)) + un_ (1 : Int64) * 2 ^ (P + d) = (2 * x + 1) * 2 ^ (P + d) := by
        rw [show un_ (1 : Int64) = 1 from rfl, show P + (d + 1) = P + d + 1 by omega, Nat.pow_succ, Nat.add_mul, Nat.mul_comm (2 ^ (P + d)) 2, ← Nat.mul_assoc, Nat.mul_comm x 2]
      rw [hN9] at hf9 hI9
      refine lv_iinc (v := zI (26 - ((i + 1 : Nat) : Int))) (lv' := [(7, .int (zI (26 - ((i + 1 : Nat) : Int)))), (5, .long (lN (2 * x + 1))), (3, .long (lN (4 * rr + cc9 - (4 * x + 1)))), (8, .long (lN (4 * x + 1))), (0, .ref o)]) hx hb d_Ref_root_199 hl (k := 3) rfl ((zI_add _ _).trans (congrArg zI (by omega))) (by decide) rfl (fun ls hl => ?_)
      refine lv_goto (tgt := 115) hx hb d_Ref_root_202 (by decide) ?_
      refine ih (i + 1) lo9 hi9 f9 H locs ls (by omega) (by rw [hro]; exact hf9) (by rw [hro]; exact hI9) (by rw [hro]; exact lv_sub hl [0, 1, 2, 4] rfl) hP hS
    · rw [if_neg hge] at hro
      refine lv_if_lt (tgt := 199) hx hb d_Ref_root_171 (by decide) (fun _ => ?_) (fun c9 => absurd ((lg_cmp_lt _ _).mpr ((pk_lLT (by omega) (by omega)).mpr (by omega))) c9)
      have hN9 : x * 2 ^ (P + (d + 1)) = (2 * x) * 2 ^ (P + d) := by
        rw [show P + (d + 1) = P + d + 1 by omega, Nat.pow_succ, Nat.mul_comm (2 ^ (P + d)) 2, ← Nat.mul_assoc, Nat.mul_comm x 2]
      rw [hN9] at hf hI
      refine lv_iinc (v := zI (26 - ((i + 1 : Nat) : Int))) (lv' := [(7, .int (zI (26 - ((i + 1 : Nat) : Int)))), (5, .long (lN (2 * x))), (8, .long (lN (4 * x + 1))), (3, .long (lN (4 * rr + cc9))), (0, .ref o)]) hx hb d_Ref_root_199 hl (k := 3) rfl ((zI_add _ _).trans (congrArg zI (by omega))) (by decide) rfl (fun ls hl => ?_)
      refine lv_goto (tgt := 115) hx hb d_Ref_root_202 (by decide) ?_
      refine ih (i + 1) lo hi f H locs ls (by omega) (by rw [hro]; exact hf) (by rw [hro]; exact hI) (by rw [hro]; exact lv_sub hl [0, 1, 3, 4] rfl) hP hS
set_option maxHeartbeats 4000000 in
set_option maxRecDepth 100000 in
theorem lp_Ref_root1 {p : Program} {l : Launch} {e : Env} {s : State} {m : MethodId} {args : Array Value} {below : List Frame} {meth : Method} {c : Code} {A : Nat → Prop} {ad : Nat → Nat} {D : va_G} {cB cJ : ClassId} {o r : Nat} (hq : FR p s m args c A ad D cB cJ b_Ref_root 10 y_Ref_root.cls) (hne : o ≠ r) (hA : ∀ q, rA o r q → A q) (hr : meth.sig.returnType = some .long) (hk : meth.locks = false) (cd : Int32) (la : Int64) (lo hi re wi fr bi mi : Int32) (f : Nat → Int32) (N : Nat) (hf : RowIs f N) (hI : RI lo hi N) (F B : Nat) (hfm : fmR wi fr bi F B) (w : Int64) :
    ∀ (t X : Nat) (h : Int) (H : Heap) (locs : List Loc) (ls : Array Slot), 4 ^ 26 ≤ X * 4 ^ t → X * 4 ^ t < 4 ^ 27 → (0 < t → X * 4 ^ t / 4 < 4 ^ 26) → (-1500 + t ≤ h ∧ h ≤ 1900) → w = q_Ref_signed wi (lN (rR_ F B (2 * ((ro_ (X * 4 ^ t) 57).1 * 2 ^ (2170 + (h - t)).toNat) + (if (ro_ (X * 4 ^ t) 57).2 = 0 then 0 else 1)) (-2201))) 0 → lv_has ls 10 [(0, .ref o)] → va_P D clR (rw_ o r cB (rf_ cd la r lo hi re wi fr bi mi (lN X) (zI (2 * h))) f) H → va_S (rA o r) s.heap H locs → W p l e ({ frames := 3, cells := 0, slots := 0, locals := 73 } : Room) s m args below meth c H locs 0 0 (MQ below (QP D cB o r (fun v fs' f' => v = some (.long w) ∧ SJ r cd la fs' f')) args s 0 0 (rA o r)) (F0 m 67 ls []) := by
  have hx := hq.1
  have hb := hq.2.1
  have hts := hq.2.2.2.2.1
  intro t
  induction t with
  | zero =>
    intro X h H locs ls h1 h2 h3 hh hw hl hP hS
    rw [Nat.pow_zero, Nat.mul_one] at h1 h2 hw
    refine lv_aload_n hx hb d_Ref_root_67 rfl (lv_at hl 0 rfl) ?_
    refine rg_ 10 hq hP (by decide) wt_494 rfl rfl d_Ref_root_68 ?_
    refine lv_bipush (v := (52 : Int32)) hx hb d_Ref_root_71 (by decide) ?_
    refine lv_lshr (v := (shr_ (lN X) (52 : Int32))) hx hb d_Ref_root_73 rfl ?_
    refine lv_lconst (v := (0 : Int64)) hx hb d_Ref_root_74 (by decide) ?_
    have hsh : shr_ (lN X) (52 : Int32) = lN (X / 2 ^ 52) := shr_lN63 (k := 52) (by omega) (by decide)
    have hnz : ¬ shr_ (lN X) (52 : Int32) = 0 := by
      rw [hsh]
      intro q
      have := (lN_z64 (a := X / 2 ^ 52) (by omega)).mp q
      omega
    refine W.lcmp hx hb d_Ref_root_75 ?_
    refine lv_if_ne (tgt := 102) hx hb d_Ref_root_76 (by decide) (fun _ => ?_) (fun c9 => absurd ((lg_cmp_eq _ _).mp c9) hnz)
    refine lv_aload_n hx hb d_Ref_root_102 rfl (lv_at hl 0 rfl) ?_
    refine rq_ (As := []) (rest := []) hq hA hP hS (c_Ref_clear l A ad D cB cJ o r hne hA cd la lo hi re wi fr bi mi (lN X) (zI (2 * h)) f N hf hI) kB_Ref_clear wt_607 ⟨rfl, rfl, Nat.le_of_ble_eq_true rfl, Nat.le_of_ble_eq_true rfl⟩ rfl hl.1 rfl (Nat.le_of_ble_eq_true rfl) d_Ref_root_103 ⟨Nat.zero_le _, Nat.zero_le _⟩ (fun v9 fs9 f9 H locs hk9 hP hS => ?_)
    obtain ⟨rfl, rfl, hf9⟩ := hk9
    refine lv_lconst (v := (0 : Int64)) hx hb d_Ref_root_106 (by decide) ?_
    refine lv_lstore_n (lv' := [(3, .long (0 : Int64)), (0, .ref o)]) hx hb d_Ref_root_107 rfl hl (by decide) rfl (fun ls hl => ?_)
    refine lv_lconst (v := (0 : Int64)) hx hb d_Ref_root_108 (by decide) ?_
    refine lv_lstore (lv' := [(5, .long (0 : Int64)), (3, .long (0 : Int64)), (0, .ref o)]) hx hb d_Ref_root_109 hl (by decide) rfl (fun ls hl => ?_)
    refine lv_bipush (v := (26 : Int32)) hx hb d_Ref_root_111 (by decide) ?_
    refine lv_istore (lv' := [(7, .int (26 : Int32)), (5, .long (0 : Int64)), (3, .long (0 : Int64)), (0, .ref o)]) hx hb d_Ref_root_113 hl (by decide) rfl (fun ls hl => ?_)
    have hl2 := lv_sub (l' := [(7, .int (26 : Int32)), (5, .long (0 : Int64)), (3, .long (0 : Int64)), (0, .ref o)]) hl [0, 1, 2, 3] rfl
    exact lp_Ref_root2 hq hne hA hr hk cd la wi fr bi mi F B hfm X (2170 + h).toNat h h2 h1 (by omega) rfl w (by rw [hw, show h - ((0 : Nat) : Int) = h by omega]) 57 0 (nI 4400) 0 f9 H locs ls rfl (by show RowIs f9 (0 * _); rw [Nat.zero_mul]; exact hf9) (by show RI _ _ (0 * _); rw [Nat.zero_mul]; exact ri_0) hl2 hP hS
  | succ t ih =>
    intro X h H locs ls h1 h2 h3 hh hw hl hP hS
    have h4 := h3 (by omega)
    have e4 : X * 4 ^ (t + 1) = X * 4 * 4 ^ t := by rw [Nat.pow_succ, Nat.mul_assoc, Nat.mul_comm (4 ^ t) 4]
    have hpt : 0 < 4 ^ t := Nat.pow_pos (by decide)
    have hXs : X < 2 ^ 52 := by
      have e5 : X * 4 ^ (t + 1) / 4 = X * 4 ^ t := by rw [Nat.pow_succ, ← Nat.mul_assoc, Nat.mul_div_cancel _ (by decide)]
      rw [e5] at h4
      have := Nat.le_mul_of_pos_right X hpt
      omega
    refine lv_aload_n hx hb d_Ref_root_67 rfl (lv_at hl 0 rfl) ?_
    refine rg_ 10 hq hP (by decide) wt_494 rfl rfl d_Ref_root_68 ?_
    refine lv_bipush (v := (52 : Int32)) hx hb d_Ref_root_71 (by decide) ?_
    refine lv_lshr (v := (shr_ (lN X) (52 : Int32))) hx hb d_Ref_root_73 rfl ?_
    refine lv_lconst (v := (0 : Int64)) hx hb d_Ref_root_74 (by decide) ?_
    have hsh : shr_ (lN X) (52 : Int32) = lN (X / 2 ^ 52) := shr_lN63 (k := 52) (by omega) (by decide)
    have hz : shr_ (lN X) (52 : Int32) = 0 := by rw [hsh, Nat.div_eq_of_lt hXs]; rfl
    refine W.lcmp hx hb d_Ref_root_75 ?_
    refine lv_if_ne (tgt := 102) hx hb d_Ref_root_76 (by decide) (fun c9 => absurd ((lg_cmp_eq _ _).mpr hz) c9) (fun _ => ?_)
    refine lv_aload_n hx hb d_Ref_root_79 rfl (lv_at hl 0 rfl) ?_
    refine lv_aload_n hx hb d_Ref_root_80 rfl (lv_at hl 0 rfl) ?_
    refine rg_ 10 hq hP (by decide) wt_494 rfl rfl d_Ref_root_81 ?_
    refine lv_iconst (v := (2 : Int32)) hx hb d_Ref_root_84 (by decide) ?_
    refine lv_lshl (v := (shl_ (lN X) (2 : Int32))) hx hb d_Ref_root_85 rfl ?_
    rw [show shl_ (lN X) 2 = lN (X * 4) from shl_lN (k := 2) X (by decide)]
    refine rp_ 10 (ty := tR 10) hq hne hP hS (by decide) wt_494 rfl rfl rfl rfl rfl (Nat.le_of_ble_eq_true rfl) d_Ref_root_86 (fun H locs hP hS => ?_)
    have hP : va_P D clR (rw_ o r cB (rf_ cd la r lo hi re wi fr bi mi (lN (X * 4)) (zI (2 * h))) f) H := hP
    refine lv_aload_n hx hb d_Ref_root_89 rfl (lv_at hl 0 rfl) ?_
    refine lv_dup hx hb d_Ref_root_90 rfl ?_
    refine rg_ 11 hq hP (by decide) wt_495 rfl rfl d_Ref_root_91 ?_
    refine lv_iconst (v := (2 : Int32)) hx hb d_Ref_root_94 (by decide) ?_
    refine lv_isub hx hb d_Ref_root_95 ?_
    rw [show zI (2 * h) - 2 = zI (2 * (h - 1)) by rw [show (2 : Int32) = zI 2 from rfl, zI_sub]; congr 1; omega]
    refine rp_ 11 (ty := tR 11) hq hne hP hS (by decide) wt_495 rfl rfl rfl rfl rfl (Nat.le_of_ble_eq_true rfl) d_Ref_root_96 (fun H locs hP hS => ?_)
    have hP : va_P D clR (rw_ o r cB (rf_ cd la r lo hi re wi fr bi mi (lN (X * 4)) (zI (2 * (h - 1)))) f) H := hP
    refine lv_goto (tgt := 67) hx hb d_Ref_root_99 (by decide) ?_
    exact ih (X * 4) (h - 1) H locs ls (by rw [← e4]; exact h1) (by rw [← e4]; exact h2) (fun _ => by rw [← e4]; exact h4) (by omega) (by rw [hw, e4, show h - ((t + 1 : Nat) : Int) = h - 1 - (t : Int) by omega]) hl hP hS
def rx_ (am : Int64) (we : Int32) : Nat := if we &&& 1 = 0 then un_ am else 2 * un_ am
def rh_ (we : Int32) : Int := (if we &&& 1 = 0 then we.toInt else we.toInt - 1) / 2
def rt9_ (x : Nat) : Nat := (53 - x.log2) / 2
theorem rt9_ok {x : Nat} (h0 : 0 < x) (hx : x < 2 ^ 54) : 4 ^ 26 ≤ x * 4 ^ rt9_ x ∧ x * 4 ^ rt9_ x < 4 ^ 27 ∧ (0 < rt9_ x → x * 4 ^ rt9_ x / 4 < 4 ^ 26) ∧ rt9_ x ≤ 26 := by
  obtain ⟨lo, hi⟩ := log2_bd_ h0
  have hL : x.log2 < 54 := (Nat.log2_lt (by omega)).mpr hx
  have e : (4 : Nat) ^ rt9_ x = 2 ^ (2 * rt9_ x) := by rw [Nat.pow_mul]
  have h1 : 2 ^ (x.log2 + 2 * rt9_ x) ≤ x * 4 ^ rt9_ x := by rw [e, Nat.pow_add]; exact Nat.mul_le_mul_right _ lo
  have h2 : x * 4 ^ rt9_ x < 2 ^ (x.log2 + 1 + 2 * rt9_ x) := by rw [e, Nat.pow_add]; exact Nat.mul_lt_mul_of_pos_right hi (Nat.two_pow_pos _)
  have ht : 52 ≤ x.log2 + 2 * rt9_ x ∧ x.log2 + 2 * rt9_ x ≤ 53 ∧ rt9_ x ≤ 26 := by unfold rt9_; omega
  have h3 : (2 : Nat) ^ 52 ≤ 2 ^ (x.log2 + 2 * rt9_ x) := Nat.pow_le_pow_right (by decide) ht.1
  have h4 : 2 ^ (x.log2 + 1 + 2 * rt9_ x) ≤ (2 : Nat) ^ 54 := Nat.pow_le_pow_right (by decide) (by omega)
  refine ⟨by omega, by omega, fun _ => by omega, ht.2.2⟩
theorem rh_bd {we : Int32} (h : -1074 ≤ we.toInt ∧ we.toInt ≤ 972) : -600 ≤ rh_ we ∧ rh_ we ≤ 600 := by
  unfold rh_
  split <;> omega
theorem rx_pos {wi fr bi : Int32} {F B : Nat} {v : Int64} {we : Int32} (h : fmR wi fr bi F B) (hz : q_Ref_isZero wi v = 0) : 0 < rx_ (q_Ref_split_am wi fr bi v) we := by
  have := am_pos h hz
  unfold rx_
  split <;> omega
theorem rx_lt {wi fr bi : Int32} {F B : Nat} {v : Int64} {we : Int32} (h : fmR wi fr bi F B) : rx_ (q_Ref_split_am wi fr bi v) we < 2 ^ 54 := by
  have := am_lt h v
  unfold rx_
  split <;> omega
theorem par_ {x : Int32} (hx : -5000 ≤ x.toInt ∧ x.toInt ≤ 5000) : (x &&& 1 = 0) ↔ x.toInt % 2 = 0 := by
  obtain ⟨n, hn, rfl⟩ := wb_of32 x
  have e1 : nI n &&& (1 : Int32) = nI (n % 2) := pk_andN hn (m := 1) 1 (by decide)
  rw [e1, show (0 : Int32) = nI 0 from rfl, nI_eq (by omega) (by decide)]
  have e2 : (nI n).toInt = if n < 2 ^ 31 then (n : Int) else (n : Int) - 2 ^ 32 := by
    show (Int32.ofNat n).toBitVec.toInt = _
    rw [BitVec.toInt_eq_toNat_cond, show (Int32.ofNat n).toBitVec.toNat = n from pk_tn hn]
    split <;> split <;> omega
  rw [e2]
  split <;> omega
theorem rx_even {wi fr bi : Int32} {F B : Nat} {v : Int64} (h : fmR wi fr bi F B) (c : q_Ref_split_we wi fr bi v &&& 1 = 0) : q_Ref_split_am wi fr bi v = lN (rx_ (q_Ref_split_am wi fr bi v) (q_Ref_split_we wi fr bi v)) ∧ q_Ref_split_we wi fr bi v = zI (2 * rh_ (q_Ref_split_we wi fr bi v)) := by
  have hb := sp_we2 h v
  have hp := (par_ (by omega)).mp c
  refine ⟨?_, ?_⟩
  · unfold rx_; rw [if_pos c]; exact un_lN _
  · unfold rh_; rw [if_pos c]
    generalize q_Ref_split_we wi fr bi v = y at *
    rw [show 2 * (y.toInt / 2) = y.toInt by omega]
    exact zI_of y
theorem rx_odd {wi fr bi : Int32} {F B : Nat} {v : Int64} (h : fmR wi fr bi F B) (c : ¬ q_Ref_split_we wi fr bi v &&& 1 = 0) : shl_ (q_Ref_split_am wi fr bi v) (1 : Int32) = lN (rx_ (q_Ref_split_am wi fr bi v) (q_Ref_split_we wi fr bi v)) ∧ q_Ref_split_we wi fr bi v - (1 : Int32) = zI (2 * rh_ (q_Ref_split_we wi fr bi v)) := by
  have hb := sp_we2 h v
  have hp : ¬ (q_Ref_split_we wi fr bi v).toInt % 2 = 0 := fun q => c ((par_ (by omega)).mpr q)
  refine ⟨?_, ?_⟩
  · unfold rx_; rw [if_neg c]
    have e := shl_lN (un_ (q_Ref_split_am wi fr bi v)) (k := 1) (by decide)
    rw [← un_lN] at e
    exact e.trans (congrArg lN (by omega))
  · unfold rh_; rw [if_neg c]
    generalize q_Ref_split_we wi fr bi v = y at *
    rw [show 2 * ((y.toInt - 1) / 2) = y.toInt - 1 by omega]
    rw [show y - (1 : Int32) = zI y.toInt - zI 1 by rw [← zI_of y]; rfl, zI_sub]
def q_Ref_root (F B : Nat) (wi : Int32) (fr : Int32) (bi : Int32) (a0 : Int64) : Int64 :=
  if (q_Ref_isZero wi a0) = 0 then
    if (q_Ref_isMinus wi a0) = 0 then
      if (q_Ref_isInfinite wi fr bi a0) = 0 then
        if ((q_Ref_split_we wi fr bi a0) &&& (1 : Int32)) = 0 then
          (q_Ref_signed wi (lN (rR_ F B (2 * ((ro_ ((rx_ (q_Ref_split_am wi fr bi a0) (q_Ref_split_we wi fr bi a0)) * 4 ^ rt9_ (rx_ (q_Ref_split_am wi fr bi a0) (q_Ref_split_we wi fr bi a0))) 57).1 * 2 ^ (2170 + (rh_ (q_Ref_split_we wi fr bi a0) - (rt9_ (rx_ (q_Ref_split_am wi fr bi a0) (q_Ref_split_we wi fr bi a0)) : Nat))).toNat) + (if (ro_ ((rx_ (q_Ref_split_am wi fr bi a0) (q_Ref_split_we wi fr bi a0)) * 4 ^ rt9_ (rx_ (q_Ref_split_am wi fr bi a0) (q_Ref_split_we wi fr bi a0))) 57).2 = 0 then 0 else 1)) (-2201))) 0)
        else
          (q_Ref_signed wi (lN (rR_ F B (2 * ((ro_ ((rx_ (q_Ref_split_am wi fr bi a0) (q_Ref_split_we wi fr bi a0)) * 4 ^ rt9_ (rx_ (q_Ref_split_am wi fr bi a0) (q_Ref_split_we wi fr bi a0))) 57).1 * 2 ^ (2170 + (rh_ (q_Ref_split_we wi fr bi a0) - (rt9_ (rx_ (q_Ref_split_am wi fr bi a0) (q_Ref_split_we wi fr bi a0)) : Nat))).toNat) + (if (ro_ ((rx_ (q_Ref_split_am wi fr bi a0) (q_Ref_split_we wi fr bi a0)) * 4 ^ rt9_ (rx_ (q_Ref_split_am wi fr bi a0) (q_Ref_split_we wi fr bi a0))) 57).2 = 0 then 0 else 1)) (-2201))) 0)
      else
        a0
    else
      (q_Ref_noNumber wi)
  else
    a0
theorem kB_Ref_root : RB y_Ref_root b_Ref_root 10 (some .long) 1 := ⟨wt_656, wt_655, wt_24, wt_36, by decide +kernel⟩
set_option maxHeartbeats 4000000 in
set_option maxRecDepth 100000 in
theorem c_Ref_root (l : Launch) (A : Nat → Prop) (ad : Nat → Nat) (D : va_G) (cB cJ : ClassId) (o r : Nat) (hne : o ≠ r) (hA : ∀ q, rA o r q → A q) (cd : Int32) (la : Int64) (lo : Int32) (hi : Int32) (re : Int32) (wi : Int32) (fr : Int32) (bi : Int32) (mi : Int32) (am : Int64) (we : Int32) (f : Nat → Int32) (N : Nat) (hf : RowIs f N) (hI : RI lo hi N) (hre : re = 0 ∨ re = 1) (a0 : Int64) (F B : Nat) (hfm : fmR wi fr bi F B) : Met l y_Ref_root (Cond.code y_Ref_root b_Ref_root 10 (some .long) :: BT) ({ frames := 3, cells := 0, slots := 0, locals := 73 }) (PR A ad D cB cJ o r (rf_ cd la r lo hi re wi fr bi mi am we) f [.long a0]) (QP D cB o r (fun v fs' f' => v = some (.long (q_Ref_root F B wi fr bi a0)) ∧ SJ r cd la fs' f')) 0 0 (rA o r) := by
  refine pr_ (by decide) (Nat.le_of_ble_eq_true rfl) ?_
  intro p e s m below meth c hq hP hS hr hk ls hl
  have hx := hq.1
  have hb := hq.2.1
  have hts := hq.2.2.2.2.1
  have hl : lv_has ls 10 [(0, .ref o), (1, .long a0)] := hl
  refine lv_aload_n hx hb d_Ref_root_0 rfl (lv_at hl 0 rfl) ?_
  refine lv_lload_n hx hb d_Ref_root_1 rfl (lv_at hl 1 rfl) ?_
  refine rv_i (As := [.long a0]) (rest := []) hq hA hP hS (c_Ref_isZero l A ad D cB cJ o r hne hA cd la lo hi re wi fr bi mi am we f a0) kB_Ref_isZero wt_635 ⟨rfl, rfl, Nat.le_of_ble_eq_true rfl, Nat.le_of_ble_eq_true rfl⟩ rfl hl.1 rfl (Nat.le_of_ble_eq_true rfl) d_Ref_root_2 ⟨Nat.zero_le _, Nat.zero_le _⟩ (fun H locs hP hS => ?_)
  refine lv_if_eq (tgt := 10) hx hb d_Ref_root_5 (by decide) (fun c_1 => ?_) (fun c_1 => ?_)
  · refine lv_aload_n hx hb d_Ref_root_10 rfl (lv_at hl 0 rfl) ?_
    refine lv_lload_n hx hb d_Ref_root_11 rfl (lv_at hl 1 rfl) ?_
    refine rv_i (As := [.long a0]) (rest := []) hq hA hP hS (c_Ref_isMinus l A ad D cB cJ o r hne hA cd la lo hi re wi fr bi mi am we f a0) kB_Ref_isMinus wt_591 ⟨rfl, rfl, Nat.le_of_ble_eq_true rfl, Nat.le_of_ble_eq_true rfl⟩ rfl hl.1 rfl (Nat.le_of_ble_eq_true rfl) d_Ref_root_12 ⟨Nat.zero_le _, Nat.zero_le _⟩ (fun H locs hP hS => ?_)
    refine lv_if_eq (tgt := 23) hx hb d_Ref_root_15 (by decide) (fun c_2 => ?_) (fun c_2 => ?_)
    · refine lv_aload_n hx hb d_Ref_root_23 rfl (lv_at hl 0 rfl) ?_
      refine lv_lload_n hx hb d_Ref_root_24 rfl (lv_at hl 1 rfl) ?_
      refine rv_i (As := [.long a0]) (rest := []) hq hA hP hS (c_Ref_isInfinite l A ad D cB cJ o r hne hA cd la lo hi re wi fr bi mi am we f a0) kB_Ref_isInfinite wt_583 ⟨rfl, rfl, Nat.le_of_ble_eq_true rfl, Nat.le_of_ble_eq_true rfl⟩ rfl hl.1 rfl (Nat.le_of_ble_eq_true rfl) d_Ref_root_25 ⟨Nat.zero_le _, Nat.zero_le _⟩ (fun H locs hP hS => ?_)
      refine lv_if_eq (tgt := 33) hx hb d_Ref_root_28 (by decide) (fun c_3 => ?_) (fun c_3 => ?_)
      · refine lv_aload_n hx hb d_Ref_root_33 rfl (lv_at hl 0 rfl) ?_
        refine lv_lload_n hx hb d_Ref_root_34 rfl (lv_at hl 1 rfl) ?_
        refine rv_v (As := [.long a0]) (rest := []) hq hA hP hS (c_Ref_split l A ad D cB cJ o r hne hA cd la lo hi re wi fr bi mi am we f a0) kB_Ref_split wt_587 ⟨rfl, rfl, Nat.le_of_ble_eq_true rfl, Nat.le_of_ble_eq_true rfl⟩ rfl hl.1 rfl (Nat.le_of_ble_eq_true rfl) d_Ref_root_35 ⟨Nat.zero_le _, Nat.zero_le _⟩ (fun H locs hP hS => ?_)
        refine lv_aload_n hx hb d_Ref_root_38 rfl (lv_at hl 0 rfl) ?_
        refine rg_ 11 hq hP (by decide) wt_495 rfl rfl d_Ref_root_39 ?_
        refine lv_iconst (v := (1 : Int32)) hx hb d_Ref_root_42 (by decide) ?_
        refine lv_iand hx hb d_Ref_root_43 ?_
        refine lv_if_eq (tgt := 67) hx hb d_Ref_root_44 (by decide) (fun c_4 => ?_) (fun c_4 => ?_)
        · have hrr := rt9_ok (x := (rx_ (q_Ref_split_am wi fr bi a0) (q_Ref_split_we wi fr bi a0))) (rx_pos hfm c_1 ) (rx_lt hfm)
          have hwe := sp_we2 hfm a0
          obtain ⟨ea, ew⟩ := rx_even hfm c_4
          have hP9 := hP
          clear hP
          have hP : va_P D clR (rw_ o r cB (rf_ cd la r lo hi re wi fr bi (q_Ref_split_mi wi fr bi a0) (lN (rx_ (q_Ref_split_am wi fr bi a0) (q_Ref_split_we wi fr bi a0))) (zI (2 * rh_ (q_Ref_split_we wi fr bi a0)))) f) H := by rw [← ea, ← ew]; exact hP9
          exact lp_Ref_root1 hq hne hA hr hk cd la lo hi re wi fr bi (q_Ref_split_mi wi fr bi a0) f N hf hI F B hfm _ (rt9_ (rx_ (q_Ref_split_am wi fr bi a0) (q_Ref_split_we wi fr bi a0))) (rx_ (q_Ref_split_am wi fr bi a0) (q_Ref_split_we wi fr bi a0)) (rh_ (q_Ref_split_we wi fr bi a0)) H locs ls hrr.1 hrr.2.1 hrr.2.2.1 (by have := hrr.2.2.2; have := rh_bd (we := (q_Ref_split_we wi fr bi a0)) hwe; omega) (by unfold q_Ref_root; exact ((if_pos c_1).trans ((if_pos c_2).trans ((if_pos c_3).trans ((if_pos c_4).trans rfl))))) (lv_sub hl [0] rfl) hP hS
        · refine lv_aload_n hx hb d_Ref_root_47 rfl (lv_at hl 0 rfl) ?_
          refine lv_aload_n hx hb d_Ref_root_48 rfl (lv_at hl 0 rfl) ?_
          refine rg_ 10 hq hP (by decide) wt_494 rfl rfl d_Ref_root_49 ?_
          refine lv_iconst (v := (1 : Int32)) hx hb d_Ref_root_52 (by decide) ?_
          refine lv_lshl (v := (shl_ (q_Ref_split_am wi fr bi a0) (1 : Int32))) hx hb d_Ref_root_53 rfl ?_
          refine rp_ 10 (ty := tR 10) hq hne hP hS (by decide) wt_494 rfl rfl rfl rfl rfl (Nat.le_of_ble_eq_true rfl) d_Ref_root_54 (fun H locs hP hS => ?_)
          have hP : va_P D clR (rw_ o r cB (rf_ cd la r lo hi re wi fr bi (q_Ref_split_mi wi fr bi a0) (shl_ (q_Ref_split_am wi fr bi a0) (1 : Int32)) (q_Ref_split_we wi fr bi a0)) f) H := hP
          refine lv_aload_n hx hb d_Ref_root_57 rfl (lv_at hl 0 rfl) ?_
          refine lv_dup hx hb d_Ref_root_58 rfl ?_
          refine rg_ 11 hq hP (by decide) wt_495 rfl rfl d_Ref_root_59 ?_
          refine lv_iconst (v := (1 : Int32)) hx hb d_Ref_root_62 (by decide) ?_
          refine lv_isub hx hb d_Ref_root_63 ?_
          refine rp_ 11 (ty := tR 11) hq hne hP hS (by decide) wt_495 rfl rfl rfl rfl rfl (Nat.le_of_ble_eq_true rfl) d_Ref_root_64 (fun H locs hP hS => ?_)
          have hP : va_P D clR (rw_ o r cB (rf_ cd la r lo hi re wi fr bi (q_Ref_split_mi wi fr bi a0) (shl_ (q_Ref_split_am wi fr bi a0) (1 : Int32)) ((q_Ref_split_we wi fr bi a0) - (1 : Int32))) f) H := hP
          have hrr := rt9_ok (x := (rx_ (q_Ref_split_am wi fr bi a0) (q_Ref_split_we wi fr bi a0))) (rx_pos hfm c_1 ) (rx_lt hfm)
          have hwe := sp_we2 hfm a0
          obtain ⟨ea, ew⟩ := rx_odd hfm c_4
          have hP9 := hP
          clear hP
          have hP : va_P D clR (rw_ o r cB (rf_ cd la r lo hi re wi fr bi (q_Ref_split_mi wi fr bi a0) (lN (rx_ (q_Ref_split_am wi fr bi a0) (q_Ref_split_we wi fr bi a0))) (zI (2 * rh_ (q_Ref_split_we wi fr bi a0)))) f) H := by rw [← ea, ← ew]; exact hP9
          exact lp_Ref_root1 hq hne hA hr hk cd la lo hi re wi fr bi (q_Ref_split_mi wi fr bi a0) f N hf hI F B hfm _ (rt9_ (rx_ (q_Ref_split_am wi fr bi a0) (q_Ref_split_we wi fr bi a0))) (rx_ (q_Ref_split_am wi fr bi a0) (q_Ref_split_we wi fr bi a0)) (rh_ (q_Ref_split_we wi fr bi a0)) H locs ls hrr.1 hrr.2.1 hrr.2.2.1 (by have := hrr.2.2.2; have := rh_bd (we := (q_Ref_split_we wi fr bi a0)) hwe; omega) (by unfold q_Ref_root; exact ((if_pos c_1).trans ((if_pos c_2).trans ((if_pos c_3).trans ((if_neg c_4).trans rfl))))) (lv_sub hl [0] rfl) hP hS
      · refine lv_lload_n hx hb d_Ref_root_31 rfl (lv_at hl 1 rfl) ?_
        exact qr_l hq hr hk hP hS ⟨congrArg (fun z => some (Value.long z)) (by unfold q_Ref_root; exact (((if_pos c_1).trans ((if_pos c_2).trans ((if_neg c_3).trans rfl)))).symm), _, _, _, _, _, _, _, _, _, _, rfl, hre, hf, hI⟩ d_Ref_root_32
    · refine lv_aload_n hx hb d_Ref_root_18 rfl (lv_at hl 0 rfl) ?_
      refine rv_l (As := []) (rest := []) hq hA hP hS (c_Ref_noNumber l A ad D cB cJ o r hne hA cd la lo hi re wi fr bi mi am we f ) kB_Ref_noNumber wt_639 ⟨rfl, rfl, Nat.le_of_ble_eq_true rfl, Nat.le_of_ble_eq_true rfl⟩ rfl hl.1 rfl (Nat.le_of_ble_eq_true rfl) d_Ref_root_19 ⟨Nat.zero_le _, Nat.zero_le _⟩ (fun H locs hP hS => ?_)
      exact qr_l hq hr hk hP hS ⟨congrArg (fun z => some (Value.long z)) (by unfold q_Ref_root; exact (((if_pos c_1).trans ((if_neg c_2).trans rfl))).symm), _, _, _, _, _, _, _, _, _, _, rfl, hre, hf, hI⟩ d_Ref_root_22
  · refine lv_lload_n hx hb d_Ref_root_8 rfl (lv_at hl 1 rfl) ?_
    exact qr_l hq hr hk hP hS ⟨congrArg (fun z => some (Value.long z)) (by unfold q_Ref_root; exact (((if_neg c_1).trans rfl)).symm), _, _, _, _, _, _, _, _, _, _, rfl, hre, hf, hI⟩ d_Ref_root_9
