/-! ONE TABLE OF WORDS FOR EVERY METHOD, the world of the constants, and rows for methods that only reckon -/
def BT : List Cond := lw_tbl.filter goodWord
theorem bt_mem {w : Cond} (i : Nat) (h : (decide (lw_tbl[i]? = some w) && goodWord w) = true) : w ∈ BT := by
  rw [Bool.and_eq_true, decide_eq_true_eq] at h
  exact List.mem_filter.mpr ⟨List.mem_of_getElem? h.1, h.2⟩
theorem bt_good {w : Cond} (h : w ∈ BT) : (w.onTables && w.keeps) = true ∨ ∃ ty, w = .arrayClass ty := good_of_word (List.mem_filter.mp h).2
theorem bt_in {w : Cond} (h : w ∈ BT) : w ∈ lw_tbl := (List.mem_filter.mp h).1
theorem bt_GI {y : MethodName} {bytes : ByteArray} {maxL : Nat} {ret : Option FieldType} (hc : Cond.code y bytes maxL ret ∈ BT) : GoodIn BT (Cond.code y bytes maxL ret :: BT) := by
  intro w hw
  rcases List.mem_cons.mp hw with rfl | h
  · exact ⟨hc, bt_good hc⟩
  · exact ⟨h, bt_good h⟩
/-- the forms: index 0 of 32 bits, 1 of 64 -/
def fm_w (i : Nat) : Int32 := [32, 64].getD i 0
def fm_f (i : Nat) : Int32 := [23, 52].getD i 0
def fm_b (i : Nat) : Int32 := [127, 1023].getD i 0
def fm_s (i : Nat) : Int64 := [2147483648, -9223372036854775808].getD i 0
def fm_i (i : Nat) : Int64 := [2139095040, 9218868437227405312].getD i 0
def fm_n (i : Nat) : Int64 := [2143289344, 9221120237041090560].getD i 0
def tb_from : List Int32 := [1, 2, 2, 3, 3, 0, 0, 2, 2, 3, 3, 0, 0, 1, 1, 3, 0, 0, 1, 1, 2, 2, 3, 0, 1]
def tb_to : List Int32 := [0, 0, 0, 0, 0, 1, 1, 1, 1, 1, 1, 2, 2, 2, 2, 2, 3, 3, 3, 3, 3, 0, 1, 2, 3]
abbrev nFm : String := "BitArithmetic$Form"
abbrev nKd : String := "BitArithmetic$Kinds"
abbrev nTh : String := "java/lang/Throwable"
abbrev fmF : List (String × String × String × List Int32) := [(nFm, "width", "I", [32, 64]), (nFm, "fractionBits", "I", [23, 52]), (nFm, "bias", "I", [127, 1023])]
def FW (A : Nat → Prop) (ad : Nat → Nat) (U : State) (H : Heap) : Prop :=
  va_En nFm "LBitArithmetic$Form;" ["OF_32", "OF_64"] fmF ad A U H ∧
  va_Ef 2 nFm "signBit" "J" (fun i => .long (fm_s i)) ad A U H ∧ va_Ef 2 nFm "infinity" "J" (fun i => .long (fm_i i)) ad A U H ∧ va_Ef 2 nFm "noNumber" "J" (fun i => .long (fm_n i)) ad A U H ∧
  (va_Z nKd "CONVERTED_FROM" "[I" (.ref (ad 2)) A U H ∧ va_T .int (ad 2) 25 (fun j => .int (tb_from.getD j 0)) A U H) ∧
  (va_Z nKd "CONVERTED_TO" "[I" (.ref (ad 3)) A U H ∧ va_T .int (ad 3) 25 (fun j => .int (tb_to.getD j 0)) A U H) ∧
  vx_Zq nTh "UNASSIGNED_STACK" "[Ljava/lang/StackTraceElement;" A U H ∧ vx_Zq nTh "SUPPRESSED_SENTINEL" "Ljava/util/List;" A U H
theorem FW.moved {A : Nat → Prop} {ad : Nat → Nat} {u U : State} {H : Heap} (hvm : u.vm.Alike U.vm) (h : FW A ad u H) : FW A ad U H := by
  obtain ⟨h1, h2, h3, h4, ⟨h5, h6⟩, ⟨h7, h8⟩, h9, h10⟩ := h
  exact ⟨va_En.moved hvm h1, va_Ef.moved hvm h2, va_Ef.moved hvm h3, va_Ef.moved hvm h4, ⟨va_Z.moved hvm h5, va_T.moved hvm h6⟩, ⟨va_Z.moved hvm h7, va_T.moved hvm h8⟩, vx_Zq.moved hvm h9, vx_Zq.moved hvm h10⟩
theorem FW.kept {A : Nat → Prop} {ad : Nat → Nat} {U : State} {H H1 : Heap} (h : FW A ad U H) (hq : ∀ a : Nat, a < H.size → ¬ A a → H1[a]? = H[a]?) : FW A ad U H1 := by
  obtain ⟨h1, h2, h3, h4, ⟨h5, h6⟩, ⟨h7, h8⟩, h9, h10⟩ := h
  exact ⟨h1.kept hq, h2.kept hq, h3.kept hq, h4.kept hq, ⟨h5.kept hq, h6.kept hq⟩, ⟨h7.kept hq, h8.kept hq⟩, h9.kept hq, h10.kept hq⟩
theorem FW.narrow {A B : Nat → Prop} {ad : Nat → Nat} {U : State} {H : Heap} (h : FW A ad U H) (hAB : ∀ q, B q → A q) : FW B ad U H := by
  obtain ⟨h1, h2, h3, h4, ⟨h5, h6⟩, ⟨h7, h8⟩, h9, h10⟩ := h
  exact ⟨h1.narrow hAB, h2.narrow hAB, h3.narrow hAB, h4.narrow hAB, ⟨h5.narrow hAB, h6.narrow hAB⟩, ⟨h7.narrow hAB, h8.narrow hAB⟩, h9.narrow hAB, h10.narrow hAB⟩
/-- what a method that only reckons starts from -/
def PC (A : Nat → Prop) (ad : Nat → Nat) (As : List Value) : Array Value → State → Prop := va_Pc As (fun U => FW A ad U U.heap)
theorem fw_blind {A : Nat → Prop} {ad : Nat → Nat} {As : List Value} : FrameBlind (PC A ad As) := fun a U g mk q => ⟨q.1, FW.moved (u := U) (U := U.calling g mk a) (Vm.Alike.refl U.vm) q.2⟩
theorem fw_pre {A : Nat → Prop} {ad : Nat → Nat} {As : List Value} {s : State} (h : FW A ad s s.heap) : PreS s s.heap (PC A ad As) As := ⟨fw_blind, fun U hU hW => ⟨rfl, show FW A ad U U.heap from by rw [hU]; exact FW.moved hW.alike h⟩⟩
theorem fw_preV {A : Nat → Prop} {ad : Nat → Nat} {As : List Value} {s : State} {i : Nat} (h : FW A ad s s.heap) (hi : i < 2) : PreV s s.heap nFm (ad i) (PC A ad (.ref (ad i) :: As)) As :=
  ⟨fw_blind, va_recvE (A := A) (locs := []) h.1 hi va_S.rf, fun U hU hW => ⟨rfl, show FW A ad U U.heap from by rw [hU]; exact FW.moved hW.alike h⟩⟩
/-- the facts of a walked method -/
def FX (p : Program) (s : State) (m : MethodId) (args : Array Value) (c : Code) (A : Nat → Prop) (ad : Nat → Nat) (cc : ByteArray) (nL : Nat) (own : String) : Prop :=
  p.tables.exec = Jvm.exec ∧ c.code = cc ∧ c.maxLocals = nL ∧ s.vm.findClass own = some m.cls ∧ (∀ w ∈ BT, w.before args s = true) ∧ FW A ad s s.heap
/-- the words of a static method, of a method of the forms -/
def SB (y : MethodName) (bytes : ByteArray) (maxL : Nat) (ret : Option FieldType) (n : Nat) : Prop :=
  Cond.code y bytes maxL ret ∈ BT ∧ Cond.static y ∈ BT ∧ Cond.initialized y.cls ∈ BT ∧ (y.cls ≠ "java/lang/invoke/MethodHandle" ∧ y.cls ≠ "java/lang/invoke/VarHandle" ∧ (parseMethodDescriptor y.desc).map (fun d => d.parameters.length) = some n)
def VB (y : MethodName) (bytes : ByteArray) (maxL : Nat) (ret : Option FieldType) (n : Nat) : Prop :=
  Cond.code y bytes maxL ret ∈ BT ∧ Cond.instanceMethod y ∈ BT ∧ Cond.selects nFm y y ∈ BT ∧ Cond.initialized y.cls ∈ BT ∧ (y.cls ≠ "java/lang/invoke/MethodHandle" ∧ y.cls ≠ "java/lang/invoke/VarHandle" ∧ (parseMethodDescriptor y.desc).map (fun d => d.parameters.length) = some n)
section PU1
variable {p : Program} {l : Launch} {e : Env} {R : Room} {s : State} {m : MethodId} {args : Array Value} {below : List Frame} {meth : Method} {c : Code} {locs : List Loc} {cells slots : Nat} {Q : State → Prop}
variable {A : Nat → Prop} {ad : Nat → Nat} {cc bytes : ByteArray} {nL maxL n index i pc : Nat} {own : String} {y : MethodName} {ret : Option FieldType} {rm : Room} {As rest st0 : List Value} {ls : Array Slot}
theorem bt_cb (hq : FX p s m args c A ad cc nL own) (hc : Cond.code y bytes maxL ret ∈ BT) (hi : Cond.initialized y.cls ∈ BT) (hd : y.cls ≠ "java/lang/invoke/MethodHandle" ∧ y.cls ≠ "java/lang/invoke/VarHandle" ∧ (parseMethodDescriptor y.desc).map (fun d => d.parameters.length) = some n)
    (hl : Cond.methodLink own index y ∈ BT) (hR : rm.frames + 1 ≤ R.frames ∧ 8 + (maxL + 11) + rm.locals ≤ R.locals) : CallB R s args own index y bytes maxL ret (Cond.code y bytes maxL ret :: BT) rm rm.cells rm.slots n :=
  callB_of n hq.2.2.2.2.1 (bt_GI hc) rfl rfl rfl (hq.2.2.2.2.1 _ hi) (hq.2.2.2.2.1 _ hl) hd hR
theorem fx_cf (hq : FX p s m args c A ad cc nL own) : CallFix p m c cc nL s args BT own := ⟨hq.1, hq.2.1, hq.2.2.1, hq.2.2.2.1, hq.2.2.2.2.1⟩
/-- a static method that answers a long -/
theorem sl_ {v : Int64} (hq : FX p s m args c A ad cc nL own) (hM : Met l y (Cond.code y bytes maxL ret :: BT) rm (PC A ad As) (vp_Sl (fun r => r = v)) 0 0 (fun _ => False)) (K : SB y bytes maxL ret n) (hl : Cond.methodLink own index y ∈ BT)
    (hrm : rm.cells = 0 ∧ rm.slots = 0 ∧ rm.frames + 1 ≤ R.frames ∧ 8 + (maxL + 11) + rm.locals ≤ R.locals) (hn : As.length = n) (hsize : ls.size = nL) (hstack : st0 = As.reverse ++ rest) (hW : (rest.map fun v => v.category).sum ≤ 8)
    (hdg : decode cc pc = .ok (.invokestatic index, 3)) (hf : cells ≤ R.cells ∧ slots ≤ R.slots) (kk : W p l e R s m args below meth c s.heap locs cells slots Q (F0 m (pc + 3) ls (.long v :: rest))) : W p l e R s m args below meth c s.heap locs cells slots Q (F0 m pc ls st0) := by
  obtain ⟨k1, k2, k3, k4⟩ := K
  obtain ⟨r1, r2, r3⟩ := hrm
  have cb := bt_cb (R := R) (rm := rm) hq k1 k3 k4 hl r3
  rw [r1, r2] at cb
  exact vp_callSl (W.runS (fx_cf hq) hM ⟨cb, hq.2.2.2.2.1 _ k2⟩ (fw_pre hq.2.2.2.2.2) rfl hn hsize hstack (lv_room hW) hdg hf) (fun r hr => by rw [hr]; exact kk)
theorem si_ {v : Int32} (hq : FX p s m args c A ad cc nL own) (hM : Met l y (Cond.code y bytes maxL ret :: BT) rm (PC A ad As) (vp_Si (fun r => r = v)) 0 0 (fun _ => False)) (K : SB y bytes maxL ret n) (hl : Cond.methodLink own index y ∈ BT)
    (hrm : rm.cells = 0 ∧ rm.slots = 0 ∧ rm.frames + 1 ≤ R.frames ∧ 8 + (maxL + 11) + rm.locals ≤ R.locals) (hn : As.length = n) (hsize : ls.size = nL) (hstack : st0 = As.reverse ++ rest) (hW : (rest.map fun v => v.category).sum ≤ 8)
    (hdg : decode cc pc = .ok (.invokestatic index, 3)) (hf : cells ≤ R.cells ∧ slots ≤ R.slots) (kk : W p l e R s m args below meth c s.heap locs cells slots Q (F0 m (pc + 3) ls (.int v :: rest))) : W p l e R s m args below meth c s.heap locs cells slots Q (F0 m pc ls st0) := by
  obtain ⟨k1, k2, k3, k4⟩ := K
  obtain ⟨r1, r2, r3⟩ := hrm
  have cb := bt_cb (R := R) (rm := rm) hq k1 k3 k4 hl r3
  rw [r1, r2] at cb
  exact vp_callSi (W.runS (fx_cf hq) hM ⟨cb, hq.2.2.2.2.1 _ k2⟩ (fw_pre hq.2.2.2.2.2) rfl hn hsize hstack (lv_room hW) hdg hf) (fun r hr => by rw [hr]; exact kk)
/-- a method of a form -/
theorem vl_ {v : Int64} (hq : FX p s m args c A ad cc nL own) (hi : i < 2) (hM : Met l y (Cond.code y bytes maxL ret :: BT) rm (PC A ad (.ref (ad i) :: As)) (vp_Sl (fun r => r = v)) 0 0 (fun _ => False)) (K : VB y bytes maxL ret n) (hl : Cond.methodLink own index y ∈ BT)
    (hrm : rm.cells = 0 ∧ rm.slots = 0 ∧ rm.frames + 1 ≤ R.frames ∧ 8 + (maxL + 11) + rm.locals ≤ R.locals) (hn : As.length = n) (hsize : ls.size = nL) (hstack : st0 = As.reverse ++ .ref (ad i) :: rest) (hW : (rest.map fun v => v.category).sum ≤ 8)
    (hdg : decode cc pc = .ok (.invokevirtual index, 3)) (hf : cells ≤ R.cells ∧ slots ≤ R.slots) (kk : W p l e R s m args below meth c s.heap locs cells slots Q (F0 m (pc + 3) ls (.long v :: rest))) : W p l e R s m args below meth c s.heap locs cells slots Q (F0 m pc ls st0) := by
  obtain ⟨k1, k2, k2', k3, k4⟩ := K
  obtain ⟨r1, r2, r3⟩ := hrm
  have cb := bt_cb (R := R) (rm := rm) hq k1 k3 k4 hl r3
  rw [r1, r2] at cb
  exact vp_callSl (W.runV (fx_cf hq) hM ⟨cb, hq.2.2.2.2.1 _ k2, hq.2.2.2.2.1 _ k2'⟩ (fw_preV hq.2.2.2.2.2 hi) rfl hn hsize hstack (lv_room hW) hdg hf) (fun r hr => by rw [hr]; exact kk)
theorem vi_ {v : Int32} (hq : FX p s m args c A ad cc nL own) (hi : i < 2) (hM : Met l y (Cond.code y bytes maxL ret :: BT) rm (PC A ad (.ref (ad i) :: As)) (vp_Si (fun r => r = v)) 0 0 (fun _ => False)) (K : VB y bytes maxL ret n) (hl : Cond.methodLink own index y ∈ BT)
    (hrm : rm.cells = 0 ∧ rm.slots = 0 ∧ rm.frames + 1 ≤ R.frames ∧ 8 + (maxL + 11) + rm.locals ≤ R.locals) (hn : As.length = n) (hsize : ls.size = nL) (hstack : st0 = As.reverse ++ .ref (ad i) :: rest) (hW : (rest.map fun v => v.category).sum ≤ 8)
    (hdg : decode cc pc = .ok (.invokevirtual index, 3)) (hf : cells ≤ R.cells ∧ slots ≤ R.slots) (kk : W p l e R s m args below meth c s.heap locs cells slots Q (F0 m (pc + 3) ls (.int v :: rest))) : W p l e R s m args below meth c s.heap locs cells slots Q (F0 m pc ls st0) := by
  obtain ⟨k1, k2, k2', k3, k4⟩ := K
  obtain ⟨r1, r2, r3⟩ := hrm
  have cb := bt_cb (R := R) (rm := rm) hq k1 k3 k4 hl r3
  rw [r1, r2] at cb
  exact vp_callSi (W.runV (fx_cf hq) hM ⟨cb, hq.2.2.2.2.1 _ k2, hq.2.2.2.2.1 _ k2'⟩ (fw_preV hq.2.2.2.2.2 hi) rfl hn hsize hstack (lv_room hW) hdg hf) (fun r hr => by rw [hr]; exact kk)
/-- the fields of a form -/
theorem gf_w (hq : FX p s m args c A ad cc nL own) (hi : i < 2) (hl : Cond.fieldLink own index nFm "width" "I" ∈ BT) (hdg : decode cc pc = .ok (.getfield index, 3)) (kk : W p l e R s m args below meth c s.heap [] cells slots Q (F0 m (pc + 3) ls (.int (fm_w i) :: rest))) : W p l e R s m args below meth c s.heap [] cells slots Q (F0 m pc ls (.ref (ad i) :: rest)) :=
  va_getE (q := (nFm, "width", "I", [32, 64])) hq.1 hq.2.1 hq.2.2.2.2.2.1 hi va_S.rf hq.2.2.2.1 (by simp [fmF]) (hq.2.2.2.2.1 _ hl) (fun _ h => h) hdg kk
theorem gf_f (hq : FX p s m args c A ad cc nL own) (hi : i < 2) (hl : Cond.fieldLink own index nFm "fractionBits" "I" ∈ BT) (hdg : decode cc pc = .ok (.getfield index, 3)) (kk : W p l e R s m args below meth c s.heap [] cells slots Q (F0 m (pc + 3) ls (.int (fm_f i) :: rest))) : W p l e R s m args below meth c s.heap [] cells slots Q (F0 m pc ls (.ref (ad i) :: rest)) :=
  va_getE (q := (nFm, "fractionBits", "I", [23, 52])) hq.1 hq.2.1 hq.2.2.2.2.2.1 hi va_S.rf hq.2.2.2.1 (by simp [fmF]) (hq.2.2.2.2.1 _ hl) (fun _ h => h) hdg kk
theorem gf_b (hq : FX p s m args c A ad cc nL own) (hi : i < 2) (hl : Cond.fieldLink own index nFm "bias" "I" ∈ BT) (hdg : decode cc pc = .ok (.getfield index, 3)) (kk : W p l e R s m args below meth c s.heap [] cells slots Q (F0 m (pc + 3) ls (.int (fm_b i) :: rest))) : W p l e R s m args below meth c s.heap [] cells slots Q (F0 m pc ls (.ref (ad i) :: rest)) :=
  va_getE (q := (nFm, "bias", "I", [127, 1023])) hq.1 hq.2.1 hq.2.2.2.2.2.1 hi va_S.rf hq.2.2.2.1 (by simp [fmF]) (hq.2.2.2.2.1 _ hl) (fun _ h => h) hdg kk
theorem gf_s (hq : FX p s m args c A ad cc nL own) (hi : i < 2) (hl : Cond.fieldLink own index nFm "signBit" "J" ∈ BT) (hdg : decode cc pc = .ok (.getfield index, 3)) (kk : W p l e R s m args below meth c s.heap [] cells slots Q (F0 m (pc + 3) ls (.long (fm_s i) :: rest))) : W p l e R s m args below meth c s.heap [] cells slots Q (F0 m pc ls (.ref (ad i) :: rest)) :=
  va_getX (v := fun i => .long (fm_s i)) hq.1 hq.2.1 hq.2.2.2.2.2.2.1 hi va_S.rf hq.2.2.2.1 (hq.2.2.2.2.1 _ hl) (fun _ h => h) hdg kk
theorem gf_i (hq : FX p s m args c A ad cc nL own) (hi : i < 2) (hl : Cond.fieldLink own index nFm "infinity" "J" ∈ BT) (hdg : decode cc pc = .ok (.getfield index, 3)) (kk : W p l e R s m args below meth c s.heap [] cells slots Q (F0 m (pc + 3) ls (.long (fm_i i) :: rest))) : W p l e R s m args below meth c s.heap [] cells slots Q (F0 m pc ls (.ref (ad i) :: rest)) :=
  va_getX (v := fun i => .long (fm_i i)) hq.1 hq.2.1 hq.2.2.2.2.2.2.2.1 hi va_S.rf hq.2.2.2.1 (hq.2.2.2.2.1 _ hl) (fun _ h => h) hdg kk
theorem gf_n (hq : FX p s m args c A ad cc nL own) (hi : i < 2) (hl : Cond.fieldLink own index nFm "noNumber" "J" ∈ BT) (hdg : decode cc pc = .ok (.getfield index, 3)) (kk : W p l e R s m args below meth c s.heap [] cells slots Q (F0 m (pc + 3) ls (.long (fm_n i) :: rest))) : W p l e R s m args below meth c s.heap [] cells slots Q (F0 m pc ls (.ref (ad i) :: rest)) :=
  va_getX (v := fun i => .long (fm_n i)) hq.1 hq.2.1 hq.2.2.2.2.2.2.2.2.1 hi va_S.rf hq.2.2.2.1 (hq.2.2.2.2.1 _ hl) (fun _ h => h) hdg kk
/-- the forms themselves -/
theorem gs_0 (hq : FX p s m args c A ad cc nL own) (hl : Cond.fieldLink own index nFm "OF_32" "LBitArithmetic$Form;" ∈ BT) (hdg : decode cc pc = .ok (.getstatic index, 3)) (kk : W p l e R s m args below meth c s.heap [] cells slots Q (F0 m (pc + 3) ls (.ref (ad 0) :: rest))) : W p l e R s m args below meth c s.heap [] cells slots Q (F0 m pc ls rest) :=
  va_gets (C := nFm) (n := "OF_32") (d := "LBitArithmetic$Form;") hq.1 hq.2.1 (hq.2.2.2.2.2.1.1 0 (by decide)).1 va_S.rf hq.2.2.2.1 (hq.2.2.2.2.1 _ hl) (fun _ h => h) hdg kk
theorem gs_1 (hq : FX p s m args c A ad cc nL own) (hl : Cond.fieldLink own index nFm "OF_64" "LBitArithmetic$Form;" ∈ BT) (hdg : decode cc pc = .ok (.getstatic index, 3)) (kk : W p l e R s m args below meth c s.heap [] cells slots Q (F0 m (pc + 3) ls (.ref (ad 1) :: rest))) : W p l e R s m args below meth c s.heap [] cells slots Q (F0 m pc ls rest) :=
  va_gets (C := nFm) (n := "OF_64") (d := "LBitArithmetic$Form;") hq.1 hq.2.1 (hq.2.2.2.2.2.1.1 1 (by decide)).1 va_S.rf hq.2.2.2.1 (hq.2.2.2.2.1 _ hl) (fun _ h => h) hdg kk
/-- the two tables -/
theorem gs_2 (hq : FX p s m args c A ad cc nL own) (hl : Cond.fieldLink own index nKd "CONVERTED_FROM" "[I" ∈ BT) (hdg : decode cc pc = .ok (.getstatic index, 3)) (kk : W p l e R s m args below meth c s.heap [] cells slots Q (F0 m (pc + 3) ls (.ref (ad 2) :: rest))) : W p l e R s m args below meth c s.heap [] cells slots Q (F0 m pc ls rest) :=
  va_gets (C := nKd) (n := "CONVERTED_FROM") (d := "[I") hq.1 hq.2.1 hq.2.2.2.2.2.2.2.2.2.1.1 va_S.rf hq.2.2.2.1 (hq.2.2.2.2.1 _ hl) (fun _ h => h) hdg kk
theorem gs_3 (hq : FX p s m args c A ad cc nL own) (hl : Cond.fieldLink own index nKd "CONVERTED_TO" "[I" ∈ BT) (hdg : decode cc pc = .ok (.getstatic index, 3)) (kk : W p l e R s m args below meth c s.heap [] cells slots Q (F0 m (pc + 3) ls (.ref (ad 3) :: rest))) : W p l e R s m args below meth c s.heap [] cells slots Q (F0 m pc ls rest) :=
  va_gets (C := nKd) (n := "CONVERTED_TO") (d := "[I") hq.1 hq.2.1 hq.2.2.2.2.2.2.2.2.2.2.1.1 va_S.rf hq.2.2.2.1 (hq.2.2.2.2.1 _ hl) (fun _ h => h) hdg kk
end PU1
section PU2
variable {l : Launch} {y : MethodName} {cc : ByteArray} {maxL : Nat} {ret : Option FieldType} {rm : Room} {Qc : Array Value → State → Outcome → State → Prop} {mc ms : Nat} {free : Addr → Prop} {As : List Value} {A : Nat → Prop} {ad : Nat → Nat}
/-- a contract out of a walk -/
theorem pm_ (hy : plainFor y = true) (hn : (lg_sl As).length ≤ maxL)
    (body : ∀ (p : Program) (e : Env) (s : State) (m : MethodId) (below : List Frame) (meth : Method) (c : Code), FX p s m As.toArray c A ad cc maxL y.cls → meth.sig.returnType = ret → meth.locks = false → ∀ ls : Array Slot, lv_has ls maxL (lv_args 0 As) →
      W p l e rm s m As.toArray below meth c s.heap [] 0 0 (MQ below Qc As.toArray s mc ms free) (F0 m 0 ls [])) : Met l y (Cond.code y cc maxL ret :: BT) rm (PC A ad As) Qc mc ms free := by
  refine MetFree.of_bodySF (code := cc) (maxLocals := maxL) (ret := ret) hy ?_ ?_
  · intro args s m h hn
    obtain ⟨meth, c, h1, h2, h3, h4, h5, h6, -, -⟩ := Cond.code_spec hn (atoms_spec (ws := Cond.code y cc maxL ret :: BT) h _ List.mem_cons_self)
    exact ⟨meth, c, h1, h2, h3, h4, h5, h6⟩
  · intro p e s m args below meth c s₁ B hml hv _
    obtain ⟨rfl, hF⟩ := hv
    have hts := atoms_spec (ws := Cond.code y cc maxL ret :: BT) B.pre
    have hh0 : s₁.heap = s.heap := by rw [B.state]; rfl
    have K := body p e s m below meth c ⟨B.exec, B.bytes, hml, findClass_of_methodNamed B.named, fun w h => hts w (List.mem_cons_of_mem _ h), hF⟩ B.returns B.notSynchronized _ (lv_entry As hn)
    rw [← lg_entry_eq] at K
    obtain ⟨t, a1, o, b1, b2, b3⟩ := K s₁ hh0 (Stand.of_body B)
    exact ⟨t, o, a1, b1, b2, ⟨b3.1, b3.2⟩⟩
end PU2
section PU3
variable {p : Program} {l : Launch} {e : Env} {R : Room} {s : State} {m : MethodId} {args : Array Value} {below : List Frame} {meth : Method} {c : Code} {cells slots pc : Nat} {cc : ByteArray} {ls : Array Slot}
/-- its ends -/
theorem rl_ {v w : Int64} (hx : p.tables.exec = Jvm.exec) (hb : c.code = cc) (hr : meth.sig.returnType = some .long) (hk : meth.locks = false) (hv : v = w) (hdg : decode cc pc = .ok (.lreturn, 1)) :
    W p l e R s m args below meth c s.heap [] cells slots (MQ below (vp_Sl (fun r => r = w)) args s cells slots (fun _ => False)) (F0 m pc ls [.long v]) :=
  W.lret hx hb hr (fun t ht _ => ⟨v, rfl, hv, ht⟩) (fun q hq => by cases hq) hdg
theorem ri_ {v w : Int32} (hx : p.tables.exec = Jvm.exec) (hb : c.code = cc) (hr : meth.sig.returnType = some .int) (hk : meth.locks = false) (hv : v = w) (hdg : decode cc pc = .ok (.ireturn, 1)) :
    W p l e R s m args below meth c s.heap [] cells slots (MQ below (vp_Si (fun r => r = w)) args s cells slots (fun _ => False)) (F0 m pc ls [.int v]) :=
  W.iret hx hb hr (fun t ht _ => ⟨v, rfl, hv, ht⟩) (fun q hq => by cases hq) hdg
theorem rz_ {v w : Int32} (hx : p.tables.exec = Jvm.exec) (hb : c.code = cc) (hr : meth.sig.returnType = some .boolean) (hk : meth.locks = false) (hn : narrow .boolean (.int v) = .int v) (hv : v = w) (hdg : decode cc pc = .ok (.ireturn, 1)) :
    W p l e R s m args below meth c s.heap [] cells slots (MQ below (vp_Si (fun r => r = w)) args s cells slots (fun _ => False)) (F0 m pc ls [.int v]) :=
  W.zret hx hb hr hn (fun t ht _ => ⟨v, rfl, hv, ht⟩) (fun q hq => by cases hq) hdg
end PU3
/-! rows for a switch's default, for throws -/
section TD1
variable {p : Program} {l : Launch} {e : Env} {R : Room} {s : State} {m : MethodId} {args : Array Value} {below : List Frame} {meth : Method} {c : Code} {H : Heap} {locs : List Loc} {cells slots : Nat} {Q : State → Prop}
variable {cc : ByteArray} {pc : Nat} {ls : Array Slot} {rest : List Value}
theorem tb_dflt (hexec : p.tables.exec = Jvm.exec) (hb : c.code = cc) {dflt lo hi : Int} {offs : Array Int} {len : Nat} {x : Int32} {tgt : Nat} (hdg : decode cc pc = .ok (.tableswitch dflt lo hi offs, len))
    (h : x.toInt < lo ∨ hi < x.toInt ∨ (¬ x.toInt < lo ∧ ¬ hi < x.toInt ∧ offs[(x.toInt - lo).toNat]? = some dflt)) (ht : (pc : Int) + dflt = (tgt : Int))
    (k : W p l e R s m args below meth c H locs cells slots Q (F0 m tgt ls rest)) : W p l e R s m args below meth c H locs cells slots Q (F0 m pc ls (.int x :: rest)) := by
  rcases h with h | h | ⟨h1, h2, h3⟩
  · exact lv_tableOut hexec hb hdg (Or.inl h) ht k
  · exact lv_tableOut hexec hb hdg (Or.inr h) ht k
  · exact lv_tableIn hexec hb hdg h1 h2 h3 ht k
end TD1
