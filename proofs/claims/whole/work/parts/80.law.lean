theorem kB_MainLaw_run : LB y_MainLaw_run b_MainLaw_run 8 (some .int) [(0, 12, 15, 13), (0, 12, 19, 15), (0, 12, 23, 17), (0, 12, 27, 19)] 5 := ⟨wt_108, wt_107, wt_34, by decide +kernel⟩
theorem kB_MainLaw_next : LB y_MainLaw_next b_MainLaw_next 6 (some .int) [(0, 10, 13, 13), (0, 10, 17, 15), (0, 10, 21, 17), (0, 10, 25, 19)] 4 := ⟨wt_466, wt_465, wt_34, by decide +kernel⟩
theorem kB_MainLaw_into : LB y_MainLaw_into b_MainLaw_into 6 (some .int) [(0, 10, 13, 13), (0, 10, 17, 15), (0, 10, 21, 17), (0, 10, 25, 19)] 4 := ⟨wt_473, wt_472, wt_34, by decide +kernel⟩
theorem kB_Main_latest : MB y_Main_latest b_Main_latest 1 (some .long) 0 := ⟨wt_71, wt_69, wt_70, wt_35, by decide +kernel⟩
theorem kB_Main_kind : MB y_Main_kind b_Main_kind 3 (some .int) 2 := ⟨wt_75, wt_73, wt_74, wt_35, by decide +kernel⟩
theorem k_ne {k : Nat} (h4 : k ≤ 4) (h0 : ¬ k = 0) : ¬ nI k = 0 := by
  rcases (show k = 1 ∨ k = 2 ∨ k = 3 ∨ k = 4 by omega) with rfl | rfl | rfl | rfl <;> decide
set_option maxHeartbeats 8000000 in
set_option maxRecDepth 100000 in
theorem law_turn {p : Program} {e : Env} {s : State} {m : MethodId} {below : List Frame} {meth : Method} {c : Code} (l : Launch) (hlt : l.stackTraces = false) {b L : Nat} {xs : Nat → Int32} {A : Nat → Prop} {ad : Nat → Nat} {D : va_G} {cB cJ : ClassId} {x w o r : Nat} {Q : State → Prop} (hq : FX p s m #[Value.ref b] c A ad b_Law 8 nLw) (hN : NW ad s) (hC : CW s) (hK : va_K D clR (tyR cB cJ) s) (hA9 : A x ∧ A w ∧ A o ∧ A r) (hd : n4_ x w o r) (hX : va_X b L xs s s.heap) (hbl : b < s.heap.size) (hbA : ¬ A b) (hL : L ≤ 3072) {j cells slots : Nat} (hj : 6 * j + 6 ≤ L) (hroom : cells + 1 ≤ room_1.cells ∧ slots + 6 ≤ room_1.slots)
    (hgo : ∀ (la : Int64) (cd : Int32) (fs : List Value) (f : Nat → Int32) (g : Nat → Int64) (H : Heap) (locs : List Loc) (ls : Array Slot), SJ r cd la fs f → va_P D clR (w4_ x w o r cB cJ la g fs f) H → va_S A s.heap H locs → lv_has ls 8 [(4, .int (nI (6 * j))), (0, .ref b), (1, .ref x), (2, .ref o), (3, .ref w)] → W p l e room_1 s m #[Value.ref b] below meth c H locs (cells + 1) (slots + 6) Q (F0 m 468 ls []))
    (la : Int64) (cd : Int32) (fs : List Value) (f : Nat → Int32) (g : Nat → Int64) (H : Heap) (locs : List Loc) (ls : Array Slot) (hJ : SJ r cd la fs f) (hP : va_P D clR (w4_ x w o r cB cJ la g fs f) H) (hS : va_S A s.heap H locs) (hl : lv_has ls 8 [(4, .int (nI (6 * j))), (0, .ref b), (1, .ref x), (2, .ref o), (3, .ref w)]) : W p l e room_1 s m #[Value.ref b] below meth c H locs cells slots Q (F0 m 33 ls []) := by
  have hx := hq.1
  have hb := hq.2.1
  have hts := hq.2.2.2.2.1
  have hAr : ∀ q, rA o r q → A q := fun q h => by rcases h with rfl | rfl; exact hA9.2.2.1; exact hA9.2.2.2
  have hin : ∀ k : Nat, k < 6 → vp_in (nI (6 * j) + nI k) L := fun k hk => by rw [nI_add]; exact vp_in_nI (by omega) (by omega)
  have hin0 : vp_in (nI (6 * j)) L := vp_in_nI (by omega) (by omega)
  obtain ⟨lo, hi, re, wi, fr, bi, mi, am, we, N, rfl, hre, hf, hI⟩ := hJ
  refine lv_aload_n hx hb d_Law_33 rfl (lv_at hl 1 rfl) ?_
  refine lv_iload hx hb d_Law_34 (lv_at hl 0 rfl) ?_
  refine va_sld hx hb hX hbl hbA hS hin0 d_Law_36 ?_
  refine lv_bipush (v := (7 : Int32)) hx hb d_Law_37 (by decide) ?_
  refine lv_iand hx hb d_Law_39 ?_
  by_cases c_0 : ((xs (Int32.toNatClampNeg (nI (6 * j)))) &&& (7 : Int32)) = (0 : Int32)
  · refine lv_tableIn (tgt := 76) hx hb d_Law_40 (by rw [c_0]; decide) (by rw [c_0]; decide) (by rw [c_0]; rfl) (by decide) ?_
    have hc1 : cells + 1 ≤ room_1.cells := hroom.1
    have hc2 : slots + 6 ≤ room_1.slots := hroom.2
    refine lv_aload_n hx hb d_Law_76 rfl (lv_at hl 2 rfl) ?_
    refine lv_aload_n hx hb d_Law_77 rfl (lv_at hl 1 rfl) ?_
    refine lv_iload hx hb d_Law_78 (lv_at hl 0 rfl) ?_
    refine lv_iconst (v := (1 : Int32)) hx hb d_Law_80 (by decide) ?_
    refine lv_iadd hx hb d_Law_81 ?_
    refine va_sld hx hb hX hbl hbA hS (hin 1 (by decide)) d_Law_82 ?_
    refine lv_aload_n hx hb d_Law_83 rfl (lv_at hl 1 rfl) ?_
    refine lv_iload hx hb d_Law_84 (lv_at hl 0 rfl) ?_
    refine lv_iconst (v := (2 : Int32)) hx hb d_Law_86 (by decide) ?_
    refine lv_iadd hx hb d_Law_87 ?_
    refine va_sld hx hb hX hbl hbA hS (hin 2 (by decide)) d_Law_88 ?_
    refine lv_i2l (v := (Int32.toInt64 (xs (Int32.toNatClampNeg ((nI (6 * j)) + (2 : Int32)))))) hx hb d_Law_89 rfl ?_
    refine lv_bipush (v := (32 : Int32)) hx hb d_Law_90 (by decide) ?_
    refine lv_lshl (v := (shl_ (Int32.toInt64 (xs (Int32.toNatClampNeg ((nI (6 * j)) + (2 : Int32))))) (32 : Int32))) hx hb d_Law_92 rfl ?_
    refine lv_aload_n hx hb d_Law_93 rfl (lv_at hl 1 rfl) ?_
    refine lv_iload hx hb d_Law_94 (lv_at hl 0 rfl) ?_
    refine lv_iconst (v := (3 : Int32)) hx hb d_Law_96 (by decide) ?_
    refine lv_iadd hx hb d_Law_97 ?_
    refine va_sld hx hb hX hbl hbA hS (hin 3 (by decide)) d_Law_98 ?_
    refine lv_i2l (v := (Int32.toInt64 (xs (Int32.toNatClampNeg ((nI (6 * j)) + (3 : Int32)))))) hx hb d_Law_99 rfl ?_
    refine lv_ldc2 (v := (4294967295 : Int64)) hx hb hq.2.2.2.1 (hts _ wt_719) d_Law_100 ?_
    refine lv_land hx hb d_Law_103 ?_
    refine lv_lor hx hb d_Law_104 ?_
    refine lv_aload_n hx hb d_Law_105 rfl (lv_at hl 1 rfl) ?_
    refine lv_iload hx hb d_Law_106 (lv_at hl 0 rfl) ?_
    refine lv_iconst (v := (4 : Int32)) hx hb d_Law_108 (by decide) ?_
    refine lv_iadd hx hb d_Law_109 ?_
    refine va_sld hx hb hX hbl hbA hS (hin 4 (by decide)) d_Law_110 ?_
    refine lv_i2l (v := (Int32.toInt64 (xs (Int32.toNatClampNeg ((nI (6 * j)) + (4 : Int32)))))) hx hb d_Law_111 rfl ?_
    refine lv_bipush (v := (32 : Int32)) hx hb d_Law_112 (by decide) ?_
    refine lv_lshl (v := (shl_ (Int32.toInt64 (xs (Int32.toNatClampNeg ((nI (6 * j)) + (4 : Int32))))) (32 : Int32))) hx hb d_Law_114 rfl ?_
    refine lv_aload_n hx hb d_Law_115 rfl (lv_at hl 1 rfl) ?_
    refine lv_iload hx hb d_Law_116 (lv_at hl 0 rfl) ?_
    refine lv_iconst (v := (5 : Int32)) hx hb d_Law_118 (by decide) ?_
    refine lv_iadd hx hb d_Law_119 ?_
    refine va_sld hx hb hX hbl hbA hS (hin 5 (by decide)) d_Law_120 ?_
    refine lv_i2l (v := (Int32.toInt64 (xs (Int32.toNatClampNeg ((nI (6 * j)) + (5 : Int32)))))) hx hb d_Law_121 rfl ?_
    refine lv_ldc2 (v := (4294967295 : Int64)) hx hb hq.2.2.2.1 (hts _ wt_719) d_Law_122 ?_
    refine lv_land hx hb d_Law_125 ?_
    refine lv_lor hx hb d_Law_126 ?_
    refine lv_aload_n hx hb d_Law_127 rfl (lv_at hl 4 rfl) ?_
    have hm9 := eq_run la (xs (Int32.toNatClampNeg ((nI (6 * j)) + (1 : Int32)))) ((shl_ (Int32.toInt64 (xs (Int32.toNatClampNeg ((nI (6 * j)) + (2 : Int32))))) (32 : Int32)) ||| ((Int32.toInt64 (xs (Int32.toNatClampNeg ((nI (6 * j)) + (3 : Int32))))) &&& (4294967295 : Int64))) ((shl_ (Int32.toInt64 (xs (Int32.toNatClampNeg ((nI (6 * j)) + (4 : Int32))))) (32 : Int32)) ||| ((Int32.toInt64 (xs (Int32.toNatClampNeg ((nI (6 * j)) + (5 : Int32))))) &&& (4294967295 : Int64)))
    refine lk_ (As := [.ref x, .int (xs (Int32.toNatClampNeg ((nI (6 * j)) + (1 : Int32)))), .long ((shl_ (Int32.toInt64 (xs (Int32.toNatClampNeg ((nI (6 * j)) + (2 : Int32))))) (32 : Int32)) ||| ((Int32.toInt64 (xs (Int32.toNatClampNeg ((nI (6 * j)) + (3 : Int32))))) &&& (4294967295 : Int64))), .long ((shl_ (Int32.toInt64 (xs (Int32.toNatClampNeg ((nI (6 * j)) + (4 : Int32))))) (32 : Int32)) ||| ((Int32.toInt64 (xs (Int32.toNatClampNeg ((nI (6 * j)) + (5 : Int32))))) &&& (4294967295 : Int64))), .ref w]) (rest := []) hq hN hC hK hA9 hd hP hS (c_MainLaw_run l hlt A ad D cB cJ x w hd.1 la g (xs (Int32.toNatClampNeg ((nI (6 * j)) + (1 : Int32)))) ((shl_ (Int32.toInt64 (xs (Int32.toNatClampNeg ((nI (6 * j)) + (2 : Int32))))) (32 : Int32)) ||| ((Int32.toInt64 (xs (Int32.toNatClampNeg ((nI (6 * j)) + (3 : Int32))))) &&& (4294967295 : Int64))) ((shl_ (Int32.toInt64 (xs (Int32.toNatClampNeg ((nI (6 * j)) + (4 : Int32))))) (32 : Int32)) ||| ((Int32.toInt64 (xs (Int32.toNatClampNeg ((nI (6 * j)) + (5 : Int32))))) &&& (4294967295 : Int64))) hm9.1) kB_MainLaw_run wt_106 ⟨rfl, rfl, Nat.le_of_ble_eq_true rfl, Nat.le_of_ble_eq_true rfl⟩ rfl hl.1 rfl (Nat.le_of_ble_eq_true rfl) d_Law_128 hroom (fun H locs hP hS => ?_)
    refine lv_istore (lv' := [(5, .int (nI (q_Operations_answer (xs (Int32.toNatClampNeg ((nI (6 * j)) + (1 : Int32)))) ((shl_ (Int32.toInt64 (xs (Int32.toNatClampNeg ((nI (6 * j)) + (2 : Int32))))) (32 : Int32)) ||| ((Int32.toInt64 (xs (Int32.toNatClampNeg ((nI (6 * j)) + (3 : Int32))))) &&& (4294967295 : Int64))) ((shl_ (Int32.toInt64 (xs (Int32.toNatClampNeg ((nI (6 * j)) + (4 : Int32))))) (32 : Int32)) ||| ((Int32.toInt64 (xs (Int32.toNatClampNeg ((nI (6 * j)) + (5 : Int32))))) &&& (4294967295 : Int64)))).1)), (4, .int (nI (6 * j))), (0, .ref b), (1, .ref x), (2, .ref o), (3, .ref w)]) hx hb d_Law_131 hl (by decide) rfl (fun ls hl => ?_)
    refine lv_aload_n hx hb d_Law_133 rfl (lv_at hl 4 rfl) ?_
    refine lv_aload_n hx hb d_Law_134 rfl (lv_at hl 2 rfl) ?_
    refine lv_iload hx hb d_Law_135 (lv_at hl 1 rfl) ?_
    refine lv_iconst (v := (1 : Int32)) hx hb d_Law_137 (by decide) ?_
    refine lv_iadd hx hb d_Law_138 ?_
    refine va_sld hx hb hX hbl hbA hS (hin 1 (by decide)) d_Law_139 ?_
    refine lv_aload_n hx hb d_Law_140 rfl (lv_at hl 2 rfl) ?_
    refine lv_iload hx hb d_Law_141 (lv_at hl 1 rfl) ?_
    refine lv_iconst (v := (2 : Int32)) hx hb d_Law_143 (by decide) ?_
    refine lv_iadd hx hb d_Law_144 ?_
    refine va_sld hx hb hX hbl hbA hS (hin 2 (by decide)) d_Law_145 ?_
    refine lv_i2l (v := (Int32.toInt64 (xs (Int32.toNatClampNeg ((nI (6 * j)) + (2 : Int32)))))) hx hb d_Law_146 rfl ?_
    refine lv_bipush (v := (32 : Int32)) hx hb d_Law_147 (by decide) ?_
    refine lv_lshl (v := (shl_ (Int32.toInt64 (xs (Int32.toNatClampNeg ((nI (6 * j)) + (2 : Int32))))) (32 : Int32))) hx hb d_Law_149 rfl ?_
    refine lv_aload_n hx hb d_Law_150 rfl (lv_at hl 2 rfl) ?_
    refine lv_iload hx hb d_Law_151 (lv_at hl 1 rfl) ?_
    refine lv_iconst (v := (3 : Int32)) hx hb d_Law_153 (by decide) ?_
    refine lv_iadd hx hb d_Law_154 ?_
    refine va_sld hx hb hX hbl hbA hS (hin 3 (by decide)) d_Law_155 ?_
    refine lv_i2l (v := (Int32.toInt64 (xs (Int32.toNatClampNeg ((nI (6 * j)) + (3 : Int32)))))) hx hb d_Law_156 rfl ?_
    refine lv_ldc2 (v := (4294967295 : Int64)) hx hb hq.2.2.2.1 (hts _ wt_719) d_Law_157 ?_
    refine lv_land hx hb d_Law_160 ?_
    refine lv_lor hx hb d_Law_161 ?_
    refine lv_aload_n hx hb d_Law_162 rfl (lv_at hl 2 rfl) ?_
    refine lv_iload hx hb d_Law_163 (lv_at hl 1 rfl) ?_
    refine lv_iconst (v := (4 : Int32)) hx hb d_Law_165 (by decide) ?_
    refine lv_iadd hx hb d_Law_166 ?_
    refine va_sld hx hb hX hbl hbA hS (hin 4 (by decide)) d_Law_167 ?_
    refine lv_i2l (v := (Int32.toInt64 (xs (Int32.toNatClampNeg ((nI (6 * j)) + (4 : Int32)))))) hx hb d_Law_168 rfl ?_
    refine lv_bipush (v := (32 : Int32)) hx hb d_Law_169 (by decide) ?_
    refine lv_lshl (v := (shl_ (Int32.toInt64 (xs (Int32.toNatClampNeg ((nI (6 * j)) + (4 : Int32))))) (32 : Int32))) hx hb d_Law_171 rfl ?_
    refine lv_aload_n hx hb d_Law_172 rfl (lv_at hl 2 rfl) ?_
    refine lv_iload hx hb d_Law_173 (lv_at hl 1 rfl) ?_
    refine lv_iconst (v := (5 : Int32)) hx hb d_Law_175 (by decide) ?_
    refine lv_iadd hx hb d_Law_176 ?_
    refine va_sld hx hb hX hbl hbA hS (hin 5 (by decide)) d_Law_177 ?_
    refine lv_i2l (v := (Int32.toInt64 (xs (Int32.toNatClampNeg ((nI (6 * j)) + (5 : Int32)))))) hx hb d_Law_178 rfl ?_
    refine lv_ldc2 (v := (4294967295 : Int64)) hx hb hq.2.2.2.1 (hts _ wt_719) d_Law_179 ?_
    refine lv_land hx hb d_Law_182 ?_
    refine lv_lor hx hb d_Law_183 ?_
    refine lr_ (As := [.int (xs (Int32.toNatClampNeg ((nI (6 * j)) + (1 : Int32)))), .long ((shl_ (Int32.toInt64 (xs (Int32.toNatClampNeg ((nI (6 * j)) + (2 : Int32))))) (32 : Int32)) ||| ((Int32.toInt64 (xs (Int32.toNatClampNeg ((nI (6 * j)) + (3 : Int32))))) &&& (4294967295 : Int64))), .long ((shl_ (Int32.toInt64 (xs (Int32.toNatClampNeg ((nI (6 * j)) + (4 : Int32))))) (32 : Int32)) ||| ((Int32.toInt64 (xs (Int32.toNatClampNeg ((nI (6 * j)) + (5 : Int32))))) &&& (4294967295 : Int64)))]) (rest := []) (k := fun v fs' f' => v = some (.long (q_Ref_run la (xs (Int32.toNatClampNeg ((nI (6 * j)) + (1 : Int32)))) ((shl_ (Int32.toInt64 (xs (Int32.toNatClampNeg ((nI (6 * j)) + (2 : Int32))))) (32 : Int32)) ||| ((Int32.toInt64 (xs (Int32.toNatClampNeg ((nI (6 * j)) + (3 : Int32))))) &&& (4294967295 : Int64))) ((shl_ (Int32.toInt64 (xs (Int32.toNatClampNeg ((nI (6 * j)) + (4 : Int32))))) (32 : Int32)) ||| ((Int32.toInt64 (xs (Int32.toNatClampNeg ((nI (6 * j)) + (5 : Int32))))) &&& (4294967295 : Int64))))) ∧ SJ r (q_Ref_run_cd la (xs (Int32.toNatClampNeg ((nI (6 * j)) + (1 : Int32)))) ((shl_ (Int32.toInt64 (xs (Int32.toNatClampNeg ((nI (6 * j)) + (2 : Int32))))) (32 : Int32)) ||| ((Int32.toInt64 (xs (Int32.toNatClampNeg ((nI (6 * j)) + (3 : Int32))))) &&& (4294967295 : Int64))) ((shl_ (Int32.toInt64 (xs (Int32.toNatClampNeg ((nI (6 * j)) + (4 : Int32))))) (32 : Int32)) ||| ((Int32.toInt64 (xs (Int32.toNatClampNeg ((nI (6 * j)) + (5 : Int32))))) &&& (4294967295 : Int64)))) (q_Ref_run_la la (xs (Int32.toNatClampNeg ((nI (6 * j)) + (1 : Int32)))) ((shl_ (Int32.toInt64 (xs (Int32.toNatClampNeg ((nI (6 * j)) + (2 : Int32))))) (32 : Int32)) ||| ((Int32.toInt64 (xs (Int32.toNatClampNeg ((nI (6 * j)) + (3 : Int32))))) &&& (4294967295 : Int64))) ((shl_ (Int32.toInt64 (xs (Int32.toNatClampNeg ((nI (6 * j)) + (4 : Int32))))) (32 : Int32)) ||| ((Int32.toInt64 (xs (Int32.toNatClampNeg ((nI (6 * j)) + (5 : Int32))))) &&& (4294967295 : Int64)))) fs' f') hq hK hA9 hd hP hS (c_Ref_run l A ad D cB cJ o r hd.2.2.2.2.2 hAr cd la lo hi re wi fr bi mi am we f N hf hI hre (xs (Int32.toNatClampNeg ((nI (6 * j)) + (1 : Int32)))) ((shl_ (Int32.toInt64 (xs (Int32.toNatClampNeg ((nI (6 * j)) + (2 : Int32))))) (32 : Int32)) ||| ((Int32.toInt64 (xs (Int32.toNatClampNeg ((nI (6 * j)) + (3 : Int32))))) &&& (4294967295 : Int64))) ((shl_ (Int32.toInt64 (xs (Int32.toNatClampNeg ((nI (6 * j)) + (4 : Int32))))) (32 : Int32)) ||| ((Int32.toInt64 (xs (Int32.toNatClampNeg ((nI (6 * j)) + (5 : Int32))))) &&& (4294967295 : Int64)))) (fun _ _ _ _ h => h) kB_Ref_run wt_545 ⟨rfl, rfl, Nat.le_of_ble_eq_true rfl, Nat.le_of_ble_eq_true rfl⟩ rfl hl.1 rfl (Nat.le_of_ble_eq_true rfl) d_Law_184 ⟨hc1, hc2⟩ (fun v9 fs f H locs hk9 hP hS => ?_)
    obtain ⟨rfl, hJ⟩ := hk9
    have hJ : SJ r (q_Ref_run_cd la (xs (Int32.toNatClampNeg ((nI (6 * j)) + (1 : Int32)))) ((shl_ (Int32.toInt64 (xs (Int32.toNatClampNeg ((nI (6 * j)) + (2 : Int32))))) (32 : Int32)) ||| ((Int32.toInt64 (xs (Int32.toNatClampNeg ((nI (6 * j)) + (3 : Int32))))) &&& (4294967295 : Int64))) ((shl_ (Int32.toInt64 (xs (Int32.toNatClampNeg ((nI (6 * j)) + (4 : Int32))))) (32 : Int32)) ||| ((Int32.toInt64 (xs (Int32.toNatClampNeg ((nI (6 * j)) + (5 : Int32))))) &&& (4294967295 : Int64)))) (q_Ref_run_la la (xs (Int32.toNatClampNeg ((nI (6 * j)) + (1 : Int32)))) ((shl_ (Int32.toInt64 (xs (Int32.toNatClampNeg ((nI (6 * j)) + (2 : Int32))))) (32 : Int32)) ||| ((Int32.toInt64 (xs (Int32.toNatClampNeg ((nI (6 * j)) + (3 : Int32))))) &&& (4294967295 : Int64))) ((shl_ (Int32.toInt64 (xs (Int32.toNatClampNeg ((nI (6 * j)) + (4 : Int32))))) (32 : Int32)) ||| ((Int32.toInt64 (xs (Int32.toNatClampNeg ((nI (6 * j)) + (5 : Int32))))) &&& (4294967295 : Int64)))) fs f := hJ
    obtain ⟨lo, hi, re, wi, fr, bi, mi, am, we, N, rfl, hre, hf, hI⟩ := hJ
    refine lv_lstore (lv' := [(6, .long (q_Ref_run la (xs (Int32.toNatClampNeg ((nI (6 * j)) + (1 : Int32)))) ((shl_ (Int32.toInt64 (xs (Int32.toNatClampNeg ((nI (6 * j)) + (2 : Int32))))) (32 : Int32)) ||| ((Int32.toInt64 (xs (Int32.toNatClampNeg ((nI (6 * j)) + (3 : Int32))))) &&& (4294967295 : Int64))) ((shl_ (Int32.toInt64 (xs (Int32.toNatClampNeg ((nI (6 * j)) + (4 : Int32))))) (32 : Int32)) ||| ((Int32.toInt64 (xs (Int32.toNatClampNeg ((nI (6 * j)) + (5 : Int32))))) &&& (4294967295 : Int64))))), (5, .int (nI (q_Operations_answer (xs (Int32.toNatClampNeg ((nI (6 * j)) + (1 : Int32)))) ((shl_ (Int32.toInt64 (xs (Int32.toNatClampNeg ((nI (6 * j)) + (2 : Int32))))) (32 : Int32)) ||| ((Int32.toInt64 (xs (Int32.toNatClampNeg ((nI (6 * j)) + (3 : Int32))))) &&& (4294967295 : Int64))) ((shl_ (Int32.toInt64 (xs (Int32.toNatClampNeg ((nI (6 * j)) + (4 : Int32))))) (32 : Int32)) ||| ((Int32.toInt64 (xs (Int32.toNatClampNeg ((nI (6 * j)) + (5 : Int32))))) &&& (4294967295 : Int64)))).1)), (4, .int (nI (6 * j))), (0, .ref b), (1, .ref x), (2, .ref o), (3, .ref w)]) hx hb d_Law_187 hl (by decide) rfl (fun ls hl => ?_)
    refine lv_aload_n hx hb d_Law_189 rfl (lv_at hl 5 rfl) ?_
    refine lr_ (As := []) (rest := []) (k := fun v fs' f' => v = some (.int (q_Ref_run_cd la (xs (Int32.toNatClampNeg ((nI (6 * j)) + (1 : Int32)))) ((shl_ (Int32.toInt64 (xs (Int32.toNatClampNeg ((nI (6 * j)) + (2 : Int32))))) (32 : Int32)) ||| ((Int32.toInt64 (xs (Int32.toNatClampNeg ((nI (6 * j)) + (3 : Int32))))) &&& (4294967295 : Int64))) ((shl_ (Int32.toInt64 (xs (Int32.toNatClampNeg ((nI (6 * j)) + (4 : Int32))))) (32 : Int32)) ||| ((Int32.toInt64 (xs (Int32.toNatClampNeg ((nI (6 * j)) + (5 : Int32))))) &&& (4294967295 : Int64))))) ∧ fs' = _ ∧ f' = f) hq hK hA9 hd hP hS (c_Ref_thrown l A ad D cB cJ o r hd.2.2.2.2.2 hAr _ _ lo hi re wi fr bi mi am we f) (fun _ _ _ _ h => ⟨_, _, _, h.1, ⟨rfl, rfl, rfl⟩, h.2.1, h.2.2⟩) kB_Ref_thrown wt_521 ⟨rfl, rfl, Nat.le_of_ble_eq_true rfl, Nat.le_of_ble_eq_true rfl⟩ rfl hl.1 rfl (Nat.le_of_ble_eq_true rfl) d_Law_190 ⟨hc1, hc2⟩ (fun v9 fs9 f9 H locs hk9 hP hS => ?_)
    obtain ⟨rfl, hs9, ht9⟩ := hk9
    rw [hs9, ht9] at hP
    clear hs9 ht9
    refine lv_iload hx hb d_Law_193 (lv_at hl 1 rfl) ?_
    refine lv_icmp_eq (tgt := 200) hx hb d_Law_195 (by decide) (fun _ => ?_) (fun c9 => absurd hm9.2.1.symm c9)
    refine lv_iload hx hb d_Law_200 (lv_at hl 1 rfl) ?_
    by_cases h0 : (q_Operations_answer (xs (Int32.toNatClampNeg ((nI (6 * j)) + (1 : Int32)))) ((shl_ (Int32.toInt64 (xs (Int32.toNatClampNeg ((nI (6 * j)) + (2 : Int32))))) (32 : Int32)) ||| ((Int32.toInt64 (xs (Int32.toNatClampNeg ((nI (6 * j)) + (3 : Int32))))) &&& (4294967295 : Int64))) ((shl_ (Int32.toInt64 (xs (Int32.toNatClampNeg ((nI (6 * j)) + (4 : Int32))))) (32 : Int32)) ||| ((Int32.toInt64 (xs (Int32.toNatClampNeg ((nI (6 * j)) + (5 : Int32))))) &&& (4294967295 : Int64)))).1 = 0
    · rw [if_pos h0, if_pos h0] at hP
      refine lv_if_ne (tgt := 216) hx hb d_Law_202 (by decide) (fun c9 => absurd (by rw [h0]; rfl) c9) (fun _ => ?_)
      refine lv_aload_n hx hb d_Law_205 rfl (lv_at hl 6 rfl) ?_
      refine lv_iconst (v := (0 : Int32)) hx hb d_Law_206 (by decide) ?_
      refine va_lald hx hb hK hP 1 1 rfl rfl (vp_in_nI (n := 0) (N := 1) (by decide) (by decide)) d_Law_207 ?_
      refine lv_lload hx hb d_Law_208 (lv_at hl 0 rfl) ?_
      refine W.lcmp hx hb d_Law_210 ?_
      refine lv_if_eq (tgt := 216) hx hb d_Law_211 (by decide) (fun _ => ?_) (fun c9 => absurd ((lg_cmp_eq _ _).mpr (hm9.2.2.1 h0).1) c9)
      refine lv_goto (tgt := 468) hx hb d_Law_216 (by decide) ?_
      rw [(hm9.2.2.1 h0).2] at hP
      exact hgo (q_Operations_answer (xs (Int32.toNatClampNeg ((nI (6 * j)) + (1 : Int32)))) ((shl_ (Int32.toInt64 (xs (Int32.toNatClampNeg ((nI (6 * j)) + (2 : Int32))))) (32 : Int32)) ||| ((Int32.toInt64 (xs (Int32.toNatClampNeg ((nI (6 * j)) + (3 : Int32))))) &&& (4294967295 : Int64))) ((shl_ (Int32.toInt64 (xs (Int32.toNatClampNeg ((nI (6 * j)) + (4 : Int32))))) (32 : Int32)) ||| ((Int32.toInt64 (xs (Int32.toNatClampNeg ((nI (6 * j)) + (5 : Int32))))) &&& (4294967295 : Int64)))).2 _ _ f _ H locs ls ⟨lo, hi, re, wi, fr, bi, mi, am, we, N, rfl, hre, hf, hI⟩ hP hS (lv_sub (l' := [(4, .int (nI (6 * j))), (0, .ref b), (1, .ref x), (2, .ref o), (3, .ref w)]) hl [2, 3, 4, 5, 6] rfl)
    · rw [if_neg h0, if_neg h0] at hP
      refine lv_if_ne (tgt := 216) hx hb d_Law_202 (by decide) (fun _ => ?_) (fun c9 => absurd c9 (k_ne hm9.1 h0))
      refine lv_goto (tgt := 468) hx hb d_Law_216 (by decide) ?_
      rw [(hm9.2.2.2 h0)] at hP
      exact hgo la _ _ f _ H locs ls ⟨lo, hi, re, wi, fr, bi, mi, am, we, N, rfl, hre, hf, hI⟩ hP hS (lv_sub (l' := [(4, .int (nI (6 * j))), (0, .ref b), (1, .ref x), (2, .ref o), (3, .ref w)]) hl [2, 3, 4, 5, 6] rfl)
  by_cases c_1 : ((xs (Int32.toNatClampNeg (nI (6 * j)))) &&& (7 : Int32)) = (1 : Int32)
  · refine lv_tableIn (tgt := 219) hx hb d_Law_40 (by rw [c_1]; decide) (by rw [c_1]; decide) (by rw [c_1]; rfl) (by decide) ?_
    have hc1 : cells + 1 ≤ room_1.cells := hroom.1
    have hc2 : slots + 6 ≤ room_1.slots := hroom.2
    refine lv_aload_n hx hb d_Law_219 rfl (lv_at hl 2 rfl) ?_
    refine lv_aload_n hx hb d_Law_220 rfl (lv_at hl 1 rfl) ?_
    refine lv_iload hx hb d_Law_221 (lv_at hl 0 rfl) ?_
    refine lv_iconst (v := (1 : Int32)) hx hb d_Law_223 (by decide) ?_
    refine lv_iadd hx hb d_Law_224 ?_
    refine va_sld hx hb hX hbl hbA hS (hin 1 (by decide)) d_Law_225 ?_
    refine lv_aload_n hx hb d_Law_226 rfl (lv_at hl 1 rfl) ?_
    refine lv_iload hx hb d_Law_227 (lv_at hl 0 rfl) ?_
    refine lv_iconst (v := (2 : Int32)) hx hb d_Law_229 (by decide) ?_
    refine lv_iadd hx hb d_Law_230 ?_
    refine va_sld hx hb hX hbl hbA hS (hin 2 (by decide)) d_Law_231 ?_
    refine lv_i2l (v := (Int32.toInt64 (xs (Int32.toNatClampNeg ((nI (6 * j)) + (2 : Int32)))))) hx hb d_Law_232 rfl ?_
    refine lv_bipush (v := (32 : Int32)) hx hb d_Law_233 (by decide) ?_
    refine lv_lshl (v := (shl_ (Int32.toInt64 (xs (Int32.toNatClampNeg ((nI (6 * j)) + (2 : Int32))))) (32 : Int32))) hx hb d_Law_235 rfl ?_
    refine lv_aload_n hx hb d_Law_236 rfl (lv_at hl 1 rfl) ?_
    refine lv_iload hx hb d_Law_237 (lv_at hl 0 rfl) ?_
    refine lv_iconst (v := (3 : Int32)) hx hb d_Law_239 (by decide) ?_
    refine lv_iadd hx hb d_Law_240 ?_
    refine va_sld hx hb hX hbl hbA hS (hin 3 (by decide)) d_Law_241 ?_
    refine lv_i2l (v := (Int32.toInt64 (xs (Int32.toNatClampNeg ((nI (6 * j)) + (3 : Int32)))))) hx hb d_Law_242 rfl ?_
    refine lv_ldc2 (v := (4294967295 : Int64)) hx hb hq.2.2.2.1 (hts _ wt_719) d_Law_243 ?_
    refine lv_land hx hb d_Law_246 ?_
    refine lv_lor hx hb d_Law_247 ?_
    refine lv_aload_n hx hb d_Law_248 rfl (lv_at hl 4 rfl) ?_
    have hm9 := eq_run la (xs (Int32.toNatClampNeg ((nI (6 * j)) + (1 : Int32)))) la ((shl_ (Int32.toInt64 (xs (Int32.toNatClampNeg ((nI (6 * j)) + (2 : Int32))))) (32 : Int32)) ||| ((Int32.toInt64 (xs (Int32.toNatClampNeg ((nI (6 * j)) + (3 : Int32))))) &&& (4294967295 : Int64)))
    refine lk_ (As := [.ref x, .int (xs (Int32.toNatClampNeg ((nI (6 * j)) + (1 : Int32)))), .long ((shl_ (Int32.toInt64 (xs (Int32.toNatClampNeg ((nI (6 * j)) + (2 : Int32))))) (32 : Int32)) ||| ((Int32.toInt64 (xs (Int32.toNatClampNeg ((nI (6 * j)) + (3 : Int32))))) &&& (4294967295 : Int64))), .ref w]) (rest := []) hq hN hC hK hA9 hd hP hS (c_MainLaw_next l hlt A ad D cB cJ x w hd.1 la g (xs (Int32.toNatClampNeg ((nI (6 * j)) + (1 : Int32)))) ((shl_ (Int32.toInt64 (xs (Int32.toNatClampNeg ((nI (6 * j)) + (2 : Int32))))) (32 : Int32)) ||| ((Int32.toInt64 (xs (Int32.toNatClampNeg ((nI (6 * j)) + (3 : Int32))))) &&& (4294967295 : Int64))) hm9.1) kB_MainLaw_next wt_464 ⟨rfl, rfl, Nat.le_of_ble_eq_true rfl, Nat.le_of_ble_eq_true rfl⟩ rfl hl.1 rfl (Nat.le_of_ble_eq_true rfl) d_Law_249 hroom (fun H locs hP hS => ?_)
    refine lv_istore (lv' := [(5, .int (nI (q_Operations_answer (xs (Int32.toNatClampNeg ((nI (6 * j)) + (1 : Int32)))) la ((shl_ (Int32.toInt64 (xs (Int32.toNatClampNeg ((nI (6 * j)) + (2 : Int32))))) (32 : Int32)) ||| ((Int32.toInt64 (xs (Int32.toNatClampNeg ((nI (6 * j)) + (3 : Int32))))) &&& (4294967295 : Int64)))).1)), (4, .int (nI (6 * j))), (0, .ref b), (1, .ref x), (2, .ref o), (3, .ref w)]) hx hb d_Law_252 hl (by decide) rfl (fun ls hl => ?_)
    refine lv_aload_n hx hb d_Law_254 rfl (lv_at hl 4 rfl) ?_
    refine lv_aload_n hx hb d_Law_255 rfl (lv_at hl 2 rfl) ?_
    refine lv_iload hx hb d_Law_256 (lv_at hl 1 rfl) ?_
    refine lv_iconst (v := (1 : Int32)) hx hb d_Law_258 (by decide) ?_
    refine lv_iadd hx hb d_Law_259 ?_
    refine va_sld hx hb hX hbl hbA hS (hin 1 (by decide)) d_Law_260 ?_
    refine lv_aload_n hx hb d_Law_261 rfl (lv_at hl 2 rfl) ?_
    refine lv_iload hx hb d_Law_262 (lv_at hl 1 rfl) ?_
    refine lv_iconst (v := (2 : Int32)) hx hb d_Law_264 (by decide) ?_
    refine lv_iadd hx hb d_Law_265 ?_
    refine va_sld hx hb hX hbl hbA hS (hin 2 (by decide)) d_Law_266 ?_
    refine lv_i2l (v := (Int32.toInt64 (xs (Int32.toNatClampNeg ((nI (6 * j)) + (2 : Int32)))))) hx hb d_Law_267 rfl ?_
    refine lv_bipush (v := (32 : Int32)) hx hb d_Law_268 (by decide) ?_
    refine lv_lshl (v := (shl_ (Int32.toInt64 (xs (Int32.toNatClampNeg ((nI (6 * j)) + (2 : Int32))))) (32 : Int32))) hx hb d_Law_270 rfl ?_
    refine lv_aload_n hx hb d_Law_271 rfl (lv_at hl 2 rfl) ?_
    refine lv_iload hx hb d_Law_272 (lv_at hl 1 rfl) ?_
    refine lv_iconst (v := (3 : Int32)) hx hb d_Law_274 (by decide) ?_
    refine lv_iadd hx hb d_Law_275 ?_
    refine va_sld hx hb hX hbl hbA hS (hin 3 (by decide)) d_Law_276 ?_
    refine lv_i2l (v := (Int32.toInt64 (xs (Int32.toNatClampNeg ((nI (6 * j)) + (3 : Int32)))))) hx hb d_Law_277 rfl ?_
    refine lv_ldc2 (v := (4294967295 : Int64)) hx hb hq.2.2.2.1 (hts _ wt_719) d_Law_278 ?_
    refine lv_land hx hb d_Law_281 ?_
    refine lv_lor hx hb d_Law_282 ?_
    refine lr_ (As := [.int (xs (Int32.toNatClampNeg ((nI (6 * j)) + (1 : Int32)))), .long ((shl_ (Int32.toInt64 (xs (Int32.toNatClampNeg ((nI (6 * j)) + (2 : Int32))))) (32 : Int32)) ||| ((Int32.toInt64 (xs (Int32.toNatClampNeg ((nI (6 * j)) + (3 : Int32))))) &&& (4294967295 : Int64)))]) (rest := []) (k := fun v fs' f' => v = some (.long (q_Ref_next la (xs (Int32.toNatClampNeg ((nI (6 * j)) + (1 : Int32)))) ((shl_ (Int32.toInt64 (xs (Int32.toNatClampNeg ((nI (6 * j)) + (2 : Int32))))) (32 : Int32)) ||| ((Int32.toInt64 (xs (Int32.toNatClampNeg ((nI (6 * j)) + (3 : Int32))))) &&& (4294967295 : Int64))))) ∧ SJ r (q_Ref_next_cd la (xs (Int32.toNatClampNeg ((nI (6 * j)) + (1 : Int32)))) ((shl_ (Int32.toInt64 (xs (Int32.toNatClampNeg ((nI (6 * j)) + (2 : Int32))))) (32 : Int32)) ||| ((Int32.toInt64 (xs (Int32.toNatClampNeg ((nI (6 * j)) + (3 : Int32))))) &&& (4294967295 : Int64)))) (q_Ref_next_la la (xs (Int32.toNatClampNeg ((nI (6 * j)) + (1 : Int32)))) ((shl_ (Int32.toInt64 (xs (Int32.toNatClampNeg ((nI (6 * j)) + (2 : Int32))))) (32 : Int32)) ||| ((Int32.toInt64 (xs (Int32.toNatClampNeg ((nI (6 * j)) + (3 : Int32))))) &&& (4294967295 : Int64)))) fs' f') hq hK hA9 hd hP hS (c_Ref_next l A ad D cB cJ o r hd.2.2.2.2.2 hAr cd la lo hi re wi fr bi mi am we f N hf hI hre (xs (Int32.toNatClampNeg ((nI (6 * j)) + (1 : Int32)))) ((shl_ (Int32.toInt64 (xs (Int32.toNatClampNeg ((nI (6 * j)) + (2 : Int32))))) (32 : Int32)) ||| ((Int32.toInt64 (xs (Int32.toNatClampNeg ((nI (6 * j)) + (3 : Int32))))) &&& (4294967295 : Int64)))) (fun _ _ _ _ h => h) kB_Ref_next wt_710 ⟨rfl, rfl, Nat.le_of_ble_eq_true rfl, Nat.le_of_ble_eq_true rfl⟩ rfl hl.1 rfl (Nat.le_of_ble_eq_true rfl) d_Law_283 ⟨hc1, hc2⟩ (fun v9 fs f H locs hk9 hP hS => ?_)
    obtain ⟨rfl, hJ⟩ := hk9
    have hJ : SJ r (q_Ref_run_cd la (xs (Int32.toNatClampNeg ((nI (6 * j)) + (1 : Int32)))) la ((shl_ (Int32.toInt64 (xs (Int32.toNatClampNeg ((nI (6 * j)) + (2 : Int32))))) (32 : Int32)) ||| ((Int32.toInt64 (xs (Int32.toNatClampNeg ((nI (6 * j)) + (3 : Int32))))) &&& (4294967295 : Int64)))) (q_Ref_run_la la (xs (Int32.toNatClampNeg ((nI (6 * j)) + (1 : Int32)))) la ((shl_ (Int32.toInt64 (xs (Int32.toNatClampNeg ((nI (6 * j)) + (2 : Int32))))) (32 : Int32)) ||| ((Int32.toInt64 (xs (Int32.toNatClampNeg ((nI (6 * j)) + (3 : Int32))))) &&& (4294967295 : Int64)))) fs f := hJ
    obtain ⟨lo, hi, re, wi, fr, bi, mi, am, we, N, rfl, hre, hf, hI⟩ := hJ
    refine lv_lstore (lv' := [(6, .long (q_Ref_run la (xs (Int32.toNatClampNeg ((nI (6 * j)) + (1 : Int32)))) la ((shl_ (Int32.toInt64 (xs (Int32.toNatClampNeg ((nI (6 * j)) + (2 : Int32))))) (32 : Int32)) ||| ((Int32.toInt64 (xs (Int32.toNatClampNeg ((nI (6 * j)) + (3 : Int32))))) &&& (4294967295 : Int64))))), (5, .int (nI (q_Operations_answer (xs (Int32.toNatClampNeg ((nI (6 * j)) + (1 : Int32)))) la ((shl_ (Int32.toInt64 (xs (Int32.toNatClampNeg ((nI (6 * j)) + (2 : Int32))))) (32 : Int32)) ||| ((Int32.toInt64 (xs (Int32.toNatClampNeg ((nI (6 * j)) + (3 : Int32))))) &&& (4294967295 : Int64)))).1)), (4, .int (nI (6 * j))), (0, .ref b), (1, .ref x), (2, .ref o), (3, .ref w)]) hx hb d_Law_286 hl (by decide) rfl (fun ls hl => ?_)
    refine lv_aload_n hx hb d_Law_288 rfl (lv_at hl 5 rfl) ?_
    refine lr_ (As := []) (rest := []) (k := fun v fs' f' => v = some (.int (q_Ref_run_cd la (xs (Int32.toNatClampNeg ((nI (6 * j)) + (1 : Int32)))) la ((shl_ (Int32.toInt64 (xs (Int32.toNatClampNeg ((nI (6 * j)) + (2 : Int32))))) (32 : Int32)) ||| ((Int32.toInt64 (xs (Int32.toNatClampNeg ((nI (6 * j)) + (3 : Int32))))) &&& (4294967295 : Int64))))) ∧ fs' = _ ∧ f' = f) hq hK hA9 hd hP hS (c_Ref_thrown l A ad D cB cJ o r hd.2.2.2.2.2 hAr _ _ lo hi re wi fr bi mi am we f) (fun _ _ _ _ h => ⟨_, _, _, h.1, ⟨rfl, rfl, rfl⟩, h.2.1, h.2.2⟩) kB_Ref_thrown wt_521 ⟨rfl, rfl, Nat.le_of_ble_eq_true rfl, Nat.le_of_ble_eq_true rfl⟩ rfl hl.1 rfl (Nat.le_of_ble_eq_true rfl) d_Law_289 ⟨hc1, hc2⟩ (fun v9 fs9 f9 H locs hk9 hP hS => ?_)
    obtain ⟨rfl, hs9, ht9⟩ := hk9
    rw [hs9, ht9] at hP
    clear hs9 ht9
    refine lv_iload hx hb d_Law_292 (lv_at hl 1 rfl) ?_
    refine lv_icmp_eq (tgt := 299) hx hb d_Law_294 (by decide) (fun _ => ?_) (fun c9 => absurd hm9.2.1.symm c9)
    refine lv_iload hx hb d_Law_299 (lv_at hl 1 rfl) ?_
    by_cases h0 : (q_Operations_answer (xs (Int32.toNatClampNeg ((nI (6 * j)) + (1 : Int32)))) la ((shl_ (Int32.toInt64 (xs (Int32.toNatClampNeg ((nI (6 * j)) + (2 : Int32))))) (32 : Int32)) ||| ((Int32.toInt64 (xs (Int32.toNatClampNeg ((nI (6 * j)) + (3 : Int32))))) &&& (4294967295 : Int64)))).1 = 0
    · rw [if_pos h0, if_pos h0] at hP
      refine lv_if_ne (tgt := 315) hx hb d_Law_301 (by decide) (fun c9 => absurd (by rw [h0]; rfl) c9) (fun _ => ?_)
      refine lv_aload_n hx hb d_Law_304 rfl (lv_at hl 6 rfl) ?_
      refine lv_iconst (v := (0 : Int32)) hx hb d_Law_305 (by decide) ?_
      refine va_lald hx hb hK hP 1 1 rfl rfl (vp_in_nI (n := 0) (N := 1) (by decide) (by decide)) d_Law_306 ?_
      refine lv_lload hx hb d_Law_307 (lv_at hl 0 rfl) ?_
      refine W.lcmp hx hb d_Law_309 ?_
      refine lv_if_eq (tgt := 315) hx hb d_Law_310 (by decide) (fun _ => ?_) (fun c9 => absurd ((lg_cmp_eq _ _).mpr (hm9.2.2.1 h0).1) c9)
      refine lv_goto (tgt := 468) hx hb d_Law_315 (by decide) ?_
      rw [(hm9.2.2.1 h0).2] at hP
      exact hgo (q_Operations_answer (xs (Int32.toNatClampNeg ((nI (6 * j)) + (1 : Int32)))) la ((shl_ (Int32.toInt64 (xs (Int32.toNatClampNeg ((nI (6 * j)) + (2 : Int32))))) (32 : Int32)) ||| ((Int32.toInt64 (xs (Int32.toNatClampNeg ((nI (6 * j)) + (3 : Int32))))) &&& (4294967295 : Int64)))).2 _ _ f _ H locs ls ⟨lo, hi, re, wi, fr, bi, mi, am, we, N, rfl, hre, hf, hI⟩ hP hS (lv_sub (l' := [(4, .int (nI (6 * j))), (0, .ref b), (1, .ref x), (2, .ref o), (3, .ref w)]) hl [2, 3, 4, 5, 6] rfl)
    · rw [if_neg h0, if_neg h0] at hP
      refine lv_if_ne (tgt := 315) hx hb d_Law_301 (by decide) (fun _ => ?_) (fun c9 => absurd c9 (k_ne hm9.1 h0))
      refine lv_goto (tgt := 468) hx hb d_Law_315 (by decide) ?_
      rw [(hm9.2.2.2 h0)] at hP
      exact hgo la _ _ f _ H locs ls ⟨lo, hi, re, wi, fr, bi, mi, am, we, N, rfl, hre, hf, hI⟩ hP hS (lv_sub (l' := [(4, .int (nI (6 * j))), (0, .ref b), (1, .ref x), (2, .ref o), (3, .ref w)]) hl [2, 3, 4, 5, 6] rfl)
  by_cases c_2 : ((xs (Int32.toNatClampNeg (nI (6 * j)))) &&& (7 : Int32)) = (2 : Int32)
  · refine lv_tableIn (tgt := 318) hx hb d_Law_40 (by rw [c_2]; decide) (by rw [c_2]; decide) (by rw [c_2]; rfl) (by decide) ?_
    have hc1 : cells + 1 ≤ room_1.cells := hroom.1
    have hc2 : slots + 6 ≤ room_1.slots := hroom.2
    refine lv_aload_n hx hb d_Law_318 rfl (lv_at hl 2 rfl) ?_
    refine lv_aload_n hx hb d_Law_319 rfl (lv_at hl 1 rfl) ?_
    refine lv_iload hx hb d_Law_320 (lv_at hl 0 rfl) ?_
    refine lv_iconst (v := (1 : Int32)) hx hb d_Law_322 (by decide) ?_
    refine lv_iadd hx hb d_Law_323 ?_
    refine va_sld hx hb hX hbl hbA hS (hin 1 (by decide)) d_Law_324 ?_
    refine lv_aload_n hx hb d_Law_325 rfl (lv_at hl 1 rfl) ?_
    refine lv_iload hx hb d_Law_326 (lv_at hl 0 rfl) ?_
    refine lv_iconst (v := (2 : Int32)) hx hb d_Law_328 (by decide) ?_
    refine lv_iadd hx hb d_Law_329 ?_
    refine va_sld hx hb hX hbl hbA hS (hin 2 (by decide)) d_Law_330 ?_
    refine lv_i2l (v := (Int32.toInt64 (xs (Int32.toNatClampNeg ((nI (6 * j)) + (2 : Int32)))))) hx hb d_Law_331 rfl ?_
    refine lv_bipush (v := (32 : Int32)) hx hb d_Law_332 (by decide) ?_
    refine lv_lshl (v := (shl_ (Int32.toInt64 (xs (Int32.toNatClampNeg ((nI (6 * j)) + (2 : Int32))))) (32 : Int32))) hx hb d_Law_334 rfl ?_
    refine lv_aload_n hx hb d_Law_335 rfl (lv_at hl 1 rfl) ?_
    refine lv_iload hx hb d_Law_336 (lv_at hl 0 rfl) ?_
    refine lv_iconst (v := (3 : Int32)) hx hb d_Law_338 (by decide) ?_
    refine lv_iadd hx hb d_Law_339 ?_
    refine va_sld hx hb hX hbl hbA hS (hin 3 (by decide)) d_Law_340 ?_
    refine lv_i2l (v := (Int32.toInt64 (xs (Int32.toNatClampNeg ((nI (6 * j)) + (3 : Int32)))))) hx hb d_Law_341 rfl ?_
    refine lv_ldc2 (v := (4294967295 : Int64)) hx hb hq.2.2.2.1 (hts _ wt_719) d_Law_342 ?_
    refine lv_land hx hb d_Law_345 ?_
    refine lv_lor hx hb d_Law_346 ?_
    refine lv_aload_n hx hb d_Law_347 rfl (lv_at hl 4 rfl) ?_
    have hm9 := eq_run la (xs (Int32.toNatClampNeg ((nI (6 * j)) + (1 : Int32)))) ((shl_ (Int32.toInt64 (xs (Int32.toNatClampNeg ((nI (6 * j)) + (2 : Int32))))) (32 : Int32)) ||| ((Int32.toInt64 (xs (Int32.toNatClampNeg ((nI (6 * j)) + (3 : Int32))))) &&& (4294967295 : Int64))) la
    refine lk_ (As := [.ref x, .int (xs (Int32.toNatClampNeg ((nI (6 * j)) + (1 : Int32)))), .long ((shl_ (Int32.toInt64 (xs (Int32.toNatClampNeg ((nI (6 * j)) + (2 : Int32))))) (32 : Int32)) ||| ((Int32.toInt64 (xs (Int32.toNatClampNeg ((nI (6 * j)) + (3 : Int32))))) &&& (4294967295 : Int64))), .ref w]) (rest := []) hq hN hC hK hA9 hd hP hS (c_MainLaw_into l hlt A ad D cB cJ x w hd.1 la g (xs (Int32.toNatClampNeg ((nI (6 * j)) + (1 : Int32)))) ((shl_ (Int32.toInt64 (xs (Int32.toNatClampNeg ((nI (6 * j)) + (2 : Int32))))) (32 : Int32)) ||| ((Int32.toInt64 (xs (Int32.toNatClampNeg ((nI (6 * j)) + (3 : Int32))))) &&& (4294967295 : Int64))) hm9.1) kB_MainLaw_into wt_471 ⟨rfl, rfl, Nat.le_of_ble_eq_true rfl, Nat.le_of_ble_eq_true rfl⟩ rfl hl.1 rfl (Nat.le_of_ble_eq_true rfl) d_Law_348 hroom (fun H locs hP hS => ?_)
    refine lv_istore (lv' := [(5, .int (nI (q_Operations_answer (xs (Int32.toNatClampNeg ((nI (6 * j)) + (1 : Int32)))) ((shl_ (Int32.toInt64 (xs (Int32.toNatClampNeg ((nI (6 * j)) + (2 : Int32))))) (32 : Int32)) ||| ((Int32.toInt64 (xs (Int32.toNatClampNeg ((nI (6 * j)) + (3 : Int32))))) &&& (4294967295 : Int64))) la).1)), (4, .int (nI (6 * j))), (0, .ref b), (1, .ref x), (2, .ref o), (3, .ref w)]) hx hb d_Law_351 hl (by decide) rfl (fun ls hl => ?_)
    refine lv_aload_n hx hb d_Law_353 rfl (lv_at hl 4 rfl) ?_
    refine lv_aload_n hx hb d_Law_354 rfl (lv_at hl 2 rfl) ?_
    refine lv_iload hx hb d_Law_355 (lv_at hl 1 rfl) ?_
    refine lv_iconst (v := (1 : Int32)) hx hb d_Law_357 (by decide) ?_
    refine lv_iadd hx hb d_Law_358 ?_
    refine va_sld hx hb hX hbl hbA hS (hin 1 (by decide)) d_Law_359 ?_
    refine lv_aload_n hx hb d_Law_360 rfl (lv_at hl 2 rfl) ?_
    refine lv_iload hx hb d_Law_361 (lv_at hl 1 rfl) ?_
    refine lv_iconst (v := (2 : Int32)) hx hb d_Law_363 (by decide) ?_
    refine lv_iadd hx hb d_Law_364 ?_
    refine va_sld hx hb hX hbl hbA hS (hin 2 (by decide)) d_Law_365 ?_
    refine lv_i2l (v := (Int32.toInt64 (xs (Int32.toNatClampNeg ((nI (6 * j)) + (2 : Int32)))))) hx hb d_Law_366 rfl ?_
    refine lv_bipush (v := (32 : Int32)) hx hb d_Law_367 (by decide) ?_
    refine lv_lshl (v := (shl_ (Int32.toInt64 (xs (Int32.toNatClampNeg ((nI (6 * j)) + (2 : Int32))))) (32 : Int32))) hx hb d_Law_369 rfl ?_
    refine lv_aload_n hx hb d_Law_370 rfl (lv_at hl 2 rfl) ?_
    refine lv_iload hx hb d_Law_371 (lv_at hl 1 rfl) ?_
    refine lv_iconst (v := (3 : Int32)) hx hb d_Law_373 (by decide) ?_
    refine lv_iadd hx hb d_Law_374 ?_
    refine va_sld hx hb hX hbl hbA hS (hin 3 (by decide)) d_Law_375 ?_
    refine lv_i2l (v := (Int32.toInt64 (xs (Int32.toNatClampNeg ((nI (6 * j)) + (3 : Int32)))))) hx hb d_Law_376 rfl ?_
    refine lv_ldc2 (v := (4294967295 : Int64)) hx hb hq.2.2.2.1 (hts _ wt_719) d_Law_377 ?_
    refine lv_land hx hb d_Law_380 ?_
    refine lv_lor hx hb d_Law_381 ?_
    refine lr_ (As := [.int (xs (Int32.toNatClampNeg ((nI (6 * j)) + (1 : Int32)))), .long ((shl_ (Int32.toInt64 (xs (Int32.toNatClampNeg ((nI (6 * j)) + (2 : Int32))))) (32 : Int32)) ||| ((Int32.toInt64 (xs (Int32.toNatClampNeg ((nI (6 * j)) + (3 : Int32))))) &&& (4294967295 : Int64)))]) (rest := []) (k := fun v fs' f' => v = some (.long (q_Ref_into la (xs (Int32.toNatClampNeg ((nI (6 * j)) + (1 : Int32)))) ((shl_ (Int32.toInt64 (xs (Int32.toNatClampNeg ((nI (6 * j)) + (2 : Int32))))) (32 : Int32)) ||| ((Int32.toInt64 (xs (Int32.toNatClampNeg ((nI (6 * j)) + (3 : Int32))))) &&& (4294967295 : Int64))))) ∧ SJ r (q_Ref_into_cd la (xs (Int32.toNatClampNeg ((nI (6 * j)) + (1 : Int32)))) ((shl_ (Int32.toInt64 (xs (Int32.toNatClampNeg ((nI (6 * j)) + (2 : Int32))))) (32 : Int32)) ||| ((Int32.toInt64 (xs (Int32.toNatClampNeg ((nI (6 * j)) + (3 : Int32))))) &&& (4294967295 : Int64)))) (q_Ref_into_la la (xs (Int32.toNatClampNeg ((nI (6 * j)) + (1 : Int32)))) ((shl_ (Int32.toInt64 (xs (Int32.toNatClampNeg ((nI (6 * j)) + (2 : Int32))))) (32 : Int32)) ||| ((Int32.toInt64 (xs (Int32.toNatClampNeg ((nI (6 * j)) + (3 : Int32))))) &&& (4294967295 : Int64)))) fs' f') hq hK hA9 hd hP hS (c_Ref_into l A ad D cB cJ o r hd.2.2.2.2.2 hAr cd la lo hi re wi fr bi mi am we f N hf hI hre (xs (Int32.toNatClampNeg ((nI (6 * j)) + (1 : Int32)))) ((shl_ (Int32.toInt64 (xs (Int32.toNatClampNeg ((nI (6 * j)) + (2 : Int32))))) (32 : Int32)) ||| ((Int32.toInt64 (xs (Int32.toNatClampNeg ((nI (6 * j)) + (3 : Int32))))) &&& (4294967295 : Int64)))) (fun _ _ _ _ h => h) kB_Ref_into wt_715 ⟨rfl, rfl, Nat.le_of_ble_eq_true rfl, Nat.le_of_ble_eq_true rfl⟩ rfl hl.1 rfl (Nat.le_of_ble_eq_true rfl) d_Law_382 ⟨hc1, hc2⟩ (fun v9 fs f H locs hk9 hP hS => ?_)
    obtain ⟨rfl, hJ⟩ := hk9
    have hJ : SJ r (q_Ref_run_cd la (xs (Int32.toNatClampNeg ((nI (6 * j)) + (1 : Int32)))) ((shl_ (Int32.toInt64 (xs (Int32.toNatClampNeg ((nI (6 * j)) + (2 : Int32))))) (32 : Int32)) ||| ((Int32.toInt64 (xs (Int32.toNatClampNeg ((nI (6 * j)) + (3 : Int32))))) &&& (4294967295 : Int64))) la) (q_Ref_run_la la (xs (Int32.toNatClampNeg ((nI (6 * j)) + (1 : Int32)))) ((shl_ (Int32.toInt64 (xs (Int32.toNatClampNeg ((nI (6 * j)) + (2 : Int32))))) (32 : Int32)) ||| ((Int32.toInt64 (xs (Int32.toNatClampNeg ((nI (6 * j)) + (3 : Int32))))) &&& (4294967295 : Int64))) la) fs f := hJ
    obtain ⟨lo, hi, re, wi, fr, bi, mi, am, we, N, rfl, hre, hf, hI⟩ := hJ
    refine lv_lstore (lv' := [(6, .long (q_Ref_run la (xs (Int32.toNatClampNeg ((nI (6 * j)) + (1 : Int32)))) ((shl_ (Int32.toInt64 (xs (Int32.toNatClampNeg ((nI (6 * j)) + (2 : Int32))))) (32 : Int32)) ||| ((Int32.toInt64 (xs (Int32.toNatClampNeg ((nI (6 * j)) + (3 : Int32))))) &&& (4294967295 : Int64))) la)), (5, .int (nI (q_Operations_answer (xs (Int32.toNatClampNeg ((nI (6 * j)) + (1 : Int32)))) ((shl_ (Int32.toInt64 (xs (Int32.toNatClampNeg ((nI (6 * j)) + (2 : Int32))))) (32 : Int32)) ||| ((Int32.toInt64 (xs (Int32.toNatClampNeg ((nI (6 * j)) + (3 : Int32))))) &&& (4294967295 : Int64))) la).1)), (4, .int (nI (6 * j))), (0, .ref b), (1, .ref x), (2, .ref o), (3, .ref w)]) hx hb d_Law_385 hl (by decide) rfl (fun ls hl => ?_)
    refine lv_aload_n hx hb d_Law_387 rfl (lv_at hl 5 rfl) ?_
    refine lr_ (As := []) (rest := []) (k := fun v fs' f' => v = some (.int (q_Ref_run_cd la (xs (Int32.toNatClampNeg ((nI (6 * j)) + (1 : Int32)))) ((shl_ (Int32.toInt64 (xs (Int32.toNatClampNeg ((nI (6 * j)) + (2 : Int32))))) (32 : Int32)) ||| ((Int32.toInt64 (xs (Int32.toNatClampNeg ((nI (6 * j)) + (3 : Int32))))) &&& (4294967295 : Int64))) la)) ∧ fs' = _ ∧ f' = f) hq hK hA9 hd hP hS (c_Ref_thrown l A ad D cB cJ o r hd.2.2.2.2.2 hAr _ _ lo hi re wi fr bi mi am we f) (fun _ _ _ _ h => ⟨_, _, _, h.1, ⟨rfl, rfl, rfl⟩, h.2.1, h.2.2⟩) kB_Ref_thrown wt_521 ⟨rfl, rfl, Nat.le_of_ble_eq_true rfl, Nat.le_of_ble_eq_true rfl⟩ rfl hl.1 rfl (Nat.le_of_ble_eq_true rfl) d_Law_388 ⟨hc1, hc2⟩ (fun v9 fs9 f9 H locs hk9 hP hS => ?_)
    obtain ⟨rfl, hs9, ht9⟩ := hk9
    rw [hs9, ht9] at hP
    clear hs9 ht9
    refine lv_iload hx hb d_Law_391 (lv_at hl 1 rfl) ?_
    refine lv_icmp_eq (tgt := 398) hx hb d_Law_393 (by decide) (fun _ => ?_) (fun c9 => absurd hm9.2.1.symm c9)
    refine lv_iload hx hb d_Law_398 (lv_at hl 1 rfl) ?_
    by_cases h0 : (q_Operations_answer (xs (Int32.toNatClampNeg ((nI (6 * j)) + (1 : Int32)))) ((shl_ (Int32.toInt64 (xs (Int32.toNatClampNeg ((nI (6 * j)) + (2 : Int32))))) (32 : Int32)) ||| ((Int32.toInt64 (xs (Int32.toNatClampNeg ((nI (6 * j)) + (3 : Int32))))) &&& (4294967295 : Int64))) la).1 = 0
    · rw [if_pos h0, if_pos h0] at hP
      refine lv_if_ne (tgt := 414) hx hb d_Law_400 (by decide) (fun c9 => absurd (by rw [h0]; rfl) c9) (fun _ => ?_)
      refine lv_aload_n hx hb d_Law_403 rfl (lv_at hl 6 rfl) ?_
      refine lv_iconst (v := (0 : Int32)) hx hb d_Law_404 (by decide) ?_
      refine va_lald hx hb hK hP 1 1 rfl rfl (vp_in_nI (n := 0) (N := 1) (by decide) (by decide)) d_Law_405 ?_
      refine lv_lload hx hb d_Law_406 (lv_at hl 0 rfl) ?_
      refine W.lcmp hx hb d_Law_408 ?_
      refine lv_if_eq (tgt := 414) hx hb d_Law_409 (by decide) (fun _ => ?_) (fun c9 => absurd ((lg_cmp_eq _ _).mpr (hm9.2.2.1 h0).1) c9)
      refine lv_goto (tgt := 468) hx hb d_Law_414 (by decide) ?_
      rw [(hm9.2.2.1 h0).2] at hP
      exact hgo (q_Operations_answer (xs (Int32.toNatClampNeg ((nI (6 * j)) + (1 : Int32)))) ((shl_ (Int32.toInt64 (xs (Int32.toNatClampNeg ((nI (6 * j)) + (2 : Int32))))) (32 : Int32)) ||| ((Int32.toInt64 (xs (Int32.toNatClampNeg ((nI (6 * j)) + (3 : Int32))))) &&& (4294967295 : Int64))) la).2 _ _ f _ H locs ls ⟨lo, hi, re, wi, fr, bi, mi, am, we, N, rfl, hre, hf, hI⟩ hP hS (lv_sub (l' := [(4, .int (nI (6 * j))), (0, .ref b), (1, .ref x), (2, .ref o), (3, .ref w)]) hl [2, 3, 4, 5, 6] rfl)
    · rw [if_neg h0, if_neg h0] at hP
      refine lv_if_ne (tgt := 414) hx hb d_Law_400 (by decide) (fun _ => ?_) (fun c9 => absurd c9 (k_ne hm9.1 h0))
      refine lv_goto (tgt := 468) hx hb d_Law_414 (by decide) ?_
      rw [(hm9.2.2.2 h0)] at hP
      exact hgo la _ _ f _ H locs ls ⟨lo, hi, re, wi, fr, bi, mi, am, we, N, rfl, hre, hf, hI⟩ hP hS (lv_sub (l' := [(4, .int (nI (6 * j))), (0, .ref b), (1, .ref x), (2, .ref o), (3, .ref w)]) hl [2, 3, 4, 5, 6] rfl)
  by_cases c_3 : ((xs (Int32.toNatClampNeg (nI (6 * j)))) &&& (7 : Int32)) = (3 : Int32)
  · refine lv_tableIn (tgt := 417) hx hb d_Law_40 (by rw [c_3]; decide) (by rw [c_3]; decide) (by rw [c_3]; rfl) (by decide) ?_
    have hc1 : cells ≤ room_1.cells := by have := hroom.1; omega
    have hc2 : slots ≤ room_1.slots := by have := hroom.2; omega
    refine lv_aload_n hx hb d_Law_417 rfl (lv_at hl 2 rfl) ?_
    refine lm_ (As := []) (rest := []) (v := .long la) hq hK hP hS (c_Main_latest l A ad D cB cJ x la) pm_blind (fun U hU hW => ⟨rfl, by rw [hU]; exact FW.moved hW.alike (FW.kept hq.2.2.2.2.2 hS.2.1), NW.warm hW hN, by rw [hU]; exact hP.sub [0] rfl, va_K.moved hW.alike hK⟩) (fun _ _ _ _ h => h) kB_Main_latest wt_68 ⟨rfl, rfl, Nat.le_of_ble_eq_true rfl, Nat.le_of_ble_eq_true rfl⟩ rfl hl.1 rfl (Nat.le_of_ble_eq_true rfl) d_Law_418 ⟨hc1, hc2⟩ ?_
    refine lv_aload_n hx hb d_Law_421 rfl (lv_at hl 3 rfl) ?_
    refine lr_ (As := []) (rest := [.long la]) (k := fun v fs' f' => v = some (.long la) ∧ fs' = (rf_ (q_Ref_latest_cd la) la r lo hi re wi fr bi mi am we) ∧ f' = f) hq hK hA9 hd hP hS (c_Ref_latest l A ad D cB cJ o r hd.2.2.2.2.2 hAr cd la lo hi re wi fr bi mi am we f) (fun _ _ _ _ h => ⟨_, _, _, h.1, ⟨rfl, rfl, rfl⟩, h.2.1, h.2.2⟩) kB_Ref_latest wt_525 ⟨rfl, rfl, Nat.le_of_ble_eq_true rfl, Nat.le_of_ble_eq_true rfl⟩ rfl hl.1 rfl (Nat.le_of_ble_eq_true rfl) d_Law_422 ⟨hc1, hc2⟩ (fun v9 fs9 f9 H locs hk9 hP hS => ?_)
    obtain ⟨rfl, hs9, ht9⟩ := hk9
    rw [hs9, ht9] at hP
    clear hs9 ht9
    refine W.lcmp hx hb d_Law_425 ?_
    refine lv_if_eq (tgt := 468) hx hb d_Law_426 (by decide) (fun _ => ?_) (fun c9 => absurd ((lg_cmp_eq _ _).mpr rfl) c9)
    refine W.widen (k := cells + 1) (n := slots + 6) (Nat.le_add_right _ _) (Nat.le_add_right _ _) ?_
    exact hgo la _ _ f g H locs ls ⟨lo, hi, re, wi, fr, bi, mi, am, we, N, rfl, hre, hf, hI⟩ hP hS (lv_sub (l' := [(4, .int (nI (6 * j))), (0, .ref b), (1, .ref x), (2, .ref o), (3, .ref w)]) hl [0, 1, 2, 3, 4] rfl)
  by_cases c_4 : ((xs (Int32.toNatClampNeg (nI (6 * j)))) &&& (7 : Int32)) = (4 : Int32)
  · refine lv_tableIn (tgt := 431) hx hb d_Law_40 (by rw [c_4]; decide) (by rw [c_4]; decide) (by rw [c_4]; rfl) (by decide) ?_
    have hc1 : cells ≤ room_1.cells := by have := hroom.1; omega
    have hc2 : slots ≤ room_1.slots := by have := hroom.2; omega
    refine lv_aload_n hx hb d_Law_431 rfl (lv_at hl 2 rfl) ?_
    refine lv_aload_n hx hb d_Law_432 rfl (lv_at hl 1 rfl) ?_
    refine lv_iload hx hb d_Law_433 (lv_at hl 0 rfl) ?_
    refine lv_iconst (v := (1 : Int32)) hx hb d_Law_435 (by decide) ?_
    refine lv_iadd hx hb d_Law_436 ?_
    refine va_sld hx hb hX hbl hbA hS (hin 1 (by decide)) d_Law_437 ?_
    refine lv_aload_n hx hb d_Law_438 rfl (lv_at hl 1 rfl) ?_
    refine lv_iload hx hb d_Law_439 (lv_at hl 0 rfl) ?_
    refine lv_iconst (v := (2 : Int32)) hx hb d_Law_441 (by decide) ?_
    refine lv_iadd hx hb d_Law_442 ?_
    refine va_sld hx hb hX hbl hbA hS (hin 2 (by decide)) d_Law_443 ?_
    refine lm_ (As := [.int (xs (Int32.toNatClampNeg ((nI (6 * j)) + (1 : Int32)))), .int (xs (Int32.toNatClampNeg ((nI (6 * j)) + (2 : Int32))))]) (rest := []) (v := .int (q_Main_kind (xs (Int32.toNatClampNeg ((nI (6 * j)) + (1 : Int32)))) (xs (Int32.toNatClampNeg ((nI (6 * j)) + (2 : Int32)))))) hq hK hP hS (c_Main_kind l A ad x (xs (Int32.toNatClampNeg ((nI (6 * j)) + (1 : Int32)))) (xs (Int32.toNatClampNeg ((nI (6 * j)) + (2 : Int32))))) fw_blind (fun U hU hW => ⟨rfl, show FW A ad U U.heap from by rw [hU]; exact FW.moved hW.alike (FW.kept hq.2.2.2.2.2 hS.2.1)⟩) (fun _ _ _ _ h => by obtain ⟨r9, h1, rfl, h3⟩ := h; exact ⟨h1, h3⟩) kB_Main_kind wt_72 ⟨rfl, rfl, Nat.le_of_ble_eq_true rfl, Nat.le_of_ble_eq_true rfl⟩ rfl hl.1 rfl (Nat.le_of_ble_eq_true rfl) d_Law_444 ⟨hc1, hc2⟩ ?_
    refine lv_aload_n hx hb d_Law_447 rfl (lv_at hl 3 rfl) ?_
    refine lv_aload_n hx hb d_Law_448 rfl (lv_at hl 1 rfl) ?_
    refine lv_iload hx hb d_Law_449 (lv_at hl 0 rfl) ?_
    refine lv_iconst (v := (1 : Int32)) hx hb d_Law_451 (by decide) ?_
    refine lv_iadd hx hb d_Law_452 ?_
    refine va_sld hx hb hX hbl hbA hS (hin 1 (by decide)) d_Law_453 ?_
    refine lv_aload_n hx hb d_Law_454 rfl (lv_at hl 1 rfl) ?_
    refine lv_iload hx hb d_Law_455 (lv_at hl 0 rfl) ?_
    refine lv_iconst (v := (2 : Int32)) hx hb d_Law_457 (by decide) ?_
    refine lv_iadd hx hb d_Law_458 ?_
    refine va_sld hx hb hX hbl hbA hS (hin 2 (by decide)) d_Law_459 ?_
    refine lr_ (As := [.int (xs (Int32.toNatClampNeg ((nI (6 * j)) + (1 : Int32)))), .int (xs (Int32.toNatClampNeg ((nI (6 * j)) + (2 : Int32))))]) (rest := [.int (q_Main_kind (xs (Int32.toNatClampNeg ((nI (6 * j)) + (1 : Int32)))) (xs (Int32.toNatClampNeg ((nI (6 * j)) + (2 : Int32)))))]) (k := fun v fs' f' => v = some (.int (q_Ref_kind (xs (Int32.toNatClampNeg ((nI (6 * j)) + (1 : Int32)))) (xs (Int32.toNatClampNeg ((nI (6 * j)) + (2 : Int32)))))) ∧ fs' = (rf_ (q_Ref_kind_cd (xs (Int32.toNatClampNeg ((nI (6 * j)) + (1 : Int32)))) (xs (Int32.toNatClampNeg ((nI (6 * j)) + (2 : Int32))))) la r lo hi re wi fr bi mi am we) ∧ f' = f) hq hK hA9 hd hP hS (c_Ref_kind l A ad D cB cJ o r hd.2.2.2.2.2 hAr cd la lo hi re wi fr bi mi am we f (xs (Int32.toNatClampNeg ((nI (6 * j)) + (1 : Int32)))) (xs (Int32.toNatClampNeg ((nI (6 * j)) + (2 : Int32))))) (fun _ _ _ _ h => ⟨_, _, _, h.1, ⟨rfl, rfl, rfl⟩, h.2.1, h.2.2⟩) kB_Ref_kind wt_529 ⟨rfl, rfl, Nat.le_of_ble_eq_true rfl, Nat.le_of_ble_eq_true rfl⟩ rfl hl.1 rfl (Nat.le_of_ble_eq_true rfl) d_Law_460 ⟨hc1, hc2⟩ (fun v9 fs9 f9 H locs hk9 hP hS => ?_)
    obtain ⟨rfl, hs9, ht9⟩ := hk9
    rw [hs9, ht9] at hP
    clear hs9 ht9
    refine lv_icmp_eq (tgt := 468) hx hb d_Law_463 (by decide) (fun _ => ?_) (fun c9 => absurd (eq_kind _ _) c9)
    refine W.widen (k := cells + 1) (n := slots + 6) (Nat.le_add_right _ _) (Nat.le_add_right _ _) ?_
    exact hgo la _ _ f g H locs ls ⟨lo, hi, re, wi, fr, bi, mi, am, we, N, rfl, hre, hf, hI⟩ hP hS (lv_sub (l' := [(4, .int (nI (6 * j))), (0, .ref b), (1, .ref x), (2, .ref o), (3, .ref w)]) hl [0, 1, 2, 3, 4] rfl)
  have hsw : ((xs (Int32.toNatClampNeg (nI (6 * j)))) &&& (7 : Int32)).toInt < 0 ∨ 4 < ((xs (Int32.toNatClampNeg (nI (6 * j)))) &&& (7 : Int32)).toInt := by
    have := lv_neT c_0 (a := 0) (by decide)
    have := lv_neT c_1 (a := 1) (by decide)
    have := lv_neT c_2 (a := 2) (by decide)
    have := lv_neT c_3 (a := 3) (by decide)
    have := lv_neT c_4 (a := 4) (by decide)
    omega
  refine lv_tableOut (tgt := 468) hx hb d_Law_40 hsw (by decide) ?_
  refine W.widen (k := cells + 1) (n := slots + 6) (Nat.le_add_right _ _) (Nat.le_add_right _ _) ?_
  exact hgo la _ _ f g H locs ls ⟨lo, hi, re, wi, fr, bi, mi, am, we, N, rfl, hre, hf, hI⟩ hP hS (lv_sub (l' := [(4, .int (nI (6 * j))), (0, .ref b), (1, .ref x), (2, .ref o), (3, .ref w)]) hl [0, 1, 2, 3, 4] rfl)
