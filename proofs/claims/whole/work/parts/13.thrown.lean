/-! methods that reckon or throw: the answer is a pair, of what is thrown (0: nothing) and the number -/
def exN (k : Nat) : String := ["", "java/lang/IllegalArgumentException", "java/lang/ArithmeticException", "java/lang/IllegalStateException", "java/lang/UnsupportedOperationException"].getD k ""
abbrev exU : List String := ["java/lang/RuntimeException", "java/lang/Exception"]
/-- what of the tables isn't kept by itself, and the texts -/
def NW (ad : Nat → Nat) (U : State) : Prop :=
  va_Nw (.declares (Bundle.initS "java/lang/RuntimeException")) U ∧ va_Nw (.declares (Bundle.initS "java/lang/Exception")) U ∧ va_Nw (.declares (Bundle.initS "java/lang/Throwable")) U ∧
  va_Nw (.castable (exN 1) (exN 1)) U ∧ va_Nw (.castable (exN 2) (exN 2)) U ∧ va_Nw (.castable (exN 3) (exN 3)) U ∧ va_Nw (.castable (exN 4) (exN 4)) U ∧
  vk_R "BitArithmetic$Operations" 18 "there is no such operation" (ad 4) U ∧ vk_R "BitArithmetic$Conversions" 83 "it is no number" (ad 5) U ∧ vk_R "BitArithmetic$Conversions" 109 "it is no such whole number" (ad 6) U ∧
  vk_R "BitArithmetic$Wholes" 52 "a division by 0" (ad 7) U ∧ vk_R "BitArithmetic$Wholes" 61 "the quotient is too great" (ad 8) U
theorem NW.warm {ad : Nat → Nat} {s U : State} (hW : s.WarmedH U.vm) (h : NW ad s) : NW ad U := by
  obtain ⟨h1, h2, h3, h4, h5, h6, h7, h8, h9, h10, h11, h12⟩ := h
  exact ⟨va_Nw.warmD hW h1, va_Nw.warmD hW h2, va_Nw.warmD hW h3, va_Nw.warmC hW h4, va_Nw.warmC hW h5, va_Nw.warmC hW h6, va_Nw.warmC hW h7, vk_R.warm hW h8, vk_R.warm hW h9, vk_R.warm hW h10, vk_R.warm hW h11, vk_R.warm hW h12⟩
theorem NW.same {ad : Nat → Nat} {s U : State} (hv : s.vm = U.vm) (h : NW ad s) : NW ad U := by
  obtain ⟨h1, h2, h3, h4, h5, h6, h7, h8, h9, h10, h11, h12⟩ := h
  exact ⟨va_Nw.same rfl hv h1, va_Nw.same rfl hv h2, va_Nw.same rfl hv h3, va_Nw.same rfl hv h4, va_Nw.same rfl hv h5, va_Nw.same rfl hv h6, va_Nw.same rfl hv h7, vk_R.same hv.symm h8, vk_R.same hv.symm h9, vk_R.same hv.symm h10, vk_R.same hv.symm h11, vk_R.same hv.symm h12⟩
def PT (A : Nat → Prop) (ad : Nat → Nat) (As : List Value) : Array Value → State → Prop := va_Pc As (fun U => FW A ad U U.heap ∧ NW ad U)
theorem pt_blind {A : Nat → Prop} {ad : Nat → Nat} {As : List Value} : FrameBlind (PT A ad As) := fun a U g mk q => ⟨q.1, FW.moved (u := U) (U := U.calling g mk a) (Vm.Alike.refl U.vm) q.2.1, NW.same rfl q.2.2⟩
theorem pt_pre {A : Nat → Prop} {ad : Nat → Nat} {As : List Value} {s : State} (h : FW A ad s s.heap) (hN : NW ad s) : PreS s s.heap (PT A ad As) As :=
  ⟨pt_blind, fun U hU hW => ⟨rfl, show FW A ad U U.heap from by rw [hU]; exact FW.moved hW.alike h, NW.warm hW hN⟩⟩
def te_S (w : Nat × Int64) : Array Value → State → Outcome → State → Prop := vp_Sl (fun r => w = (0, r))
def te_X (w : Nat × Int64) : String → State → State → Prop := fun E st t => w.1 ≠ 0 ∧ E = exN w.1 ∧ st.heap.size ≤ t.heap.size ∧ ∀ q : Nat, q < st.heap.size → t.heap[q]? = st.heap[q]?
section TP1
variable {p : Program} {l : Launch} {e : Env} {R : Room} {s : State} {m : MethodId} {args : Array Value} {below : List Frame} {meth : Method} {c : Code} {cells slots : Nat}
variable {A : Nat → Prop} {ad : Nat → Nat} {cc bytes : ByteArray} {nL maxL n index pc : Nat} {own : String} {y : MethodName} {ret : Option FieldType} {rm : Room} {As rest st0 : List Value} {ls : Array Slot}
/-- its end -/
theorem rt_l {w : Nat × Int64} {v : Int64} (hx : p.tables.exec = Jvm.exec) (hb : c.code = cc) (hr : meth.sig.returnType = some .long) (hk : meth.locks = false) (hw : w = (0, v)) (hdg : decode cc pc = .ok (.lreturn, 1)) (hc : cells ≤ 1 ∧ slots ≤ 6) :
    W p l e R s m args below meth c s.heap [] cells slots (vx_MQ below (te_S w) (te_X w) args s 1 6 (fun _ => False)) (F0 m pc ls [.long v]) :=
  W.widen hc.1 hc.2 (vx_ret (W.lret hx hb hr (fun t ht _ => ⟨v, rfl, hw, ht⟩) (fun q hq => by cases hq) hdg))
/-- a call of such a method -/
theorem tl_ {w w2 : Nat × Int64} (hq : FX p s m args c A ad cc nL own) (hN : NW ad s) (ht : ∀ x ∈ c.exceptionTable.toList, False) (hk : meth.locks = false) (hM : vx_Met l y (Cond.code y bytes maxL ret :: BT) rm (PT A ad As) (te_S w) (te_X w) 1 6 (fun _ => False)) (K : SB y bytes maxL ret n) (hl : Cond.methodLink own index y ∈ BT)
    (hrm : rm.cells = 1 ∧ rm.slots = 6 ∧ rm.frames + 1 ≤ R.frames ∧ 8 + (maxL + 11) + rm.locals ≤ R.locals) (hn : As.length = n) (hsize : ls.size = nL) (hstack : st0 = As.reverse ++ rest) (hW : (rest.map fun v => v.category).sum ≤ 8)
    (hdg : decode cc pc = .ok (.invokestatic index, 3)) (hf : 0 + 1 ≤ R.cells ∧ 0 + 6 ≤ R.slots) (hx2 : w.1 ≠ 0 → w2.1 = w.1)
    (kk : w.1 = 0 → W p l e R s m args below meth c s.heap [] 1 6 (vx_MQ below (te_S w2) (te_X w2) args s 1 6 (fun _ => False)) (F0 m (pc + 3) ls (.long w.2 :: rest))) :
    W p l e R s m args below meth c s.heap [] 0 0 (vx_MQ below (te_S w2) (te_X w2) args s 1 6 (fun _ => False)) (F0 m pc ls st0) := by
  obtain ⟨k1, k2, k3, k4⟩ := K
  obtain ⟨r1, r2, r3⟩ := hrm
  have cb := bt_cb (R := R) (rm := rm) hq k1 k3 k4 hl r3
  rw [r1, r2] at cb
  have hr := vx_runS (p := p) (e := e) (below := below) (meth := meth) (locs := []) (cells := 0) (slots := 0) (rest := rest) (g := F0 m pc ls st0) (fx_cf hq) hM ⟨cb, hq.2.2.2.2.1 _ k2⟩ (pt_pre hq.2.2.2.2.2 hN) rfl hn hsize hstack (lv_room hW) hdg hf
  intro T hT X
  rcases hr T hT X with ⟨v, st₀, t, T', L, h0, X', hL, e1, e2, ⟨r, hv, hp, hh⟩, st⟩ | ⟨q, st₀, t, T', L, E, ce, h0, X', hL, e1, e2, ⟨hp, hE, hz, hkp⟩, hce, hcv, hcl, st⟩
  · cases hv
    have hw2 : w.2 = r := by rw [hp]
    obtain ⟨t2, a1, b1⟩ := kk (by rw [hp]) T' (by rw [e1, hh, h0]) (Stand.forget X' (fun q h => (hL q h).elim))
    rw [hw2] at a1
    exact ⟨t2, st t2 a1, b1⟩
  · have hw : w2.1 = w.1 := hx2 hp
    have XX := Stand.forget X' (fun q h => (hL q h).elim)
    obtain ⟨t2, a1, b1⟩ := vx_out (p := p) (l := l) (e := e) (R := R) (args := args) (below := below) (Qc := te_S w2) (XC := te_X w2) (free := fun _ => False) (pc := pc) (ls := ls) (rest := rest) (E := E) (H := T'.heap) (mc := 1) (ms := 6) (fun x hx => (ht x hx).elim) hk (by rw [e1]; exact hce) hcv hcl
      (fun t9 h9 _ => ⟨by rw [hw]; exact hp, by rw [hw]; exact hE, by rw [h9, e1, ← h0]; exact hz, fun z hz9 => by rw [h9, e1, hkp z (by rw [h0]; exact hz9), h0]⟩) (fun z hz => by cases hz) (Nat.le_refl _) (Nat.le_refl _) T' rfl XX
    exact ⟨t2, st.trans a1, b1⟩
/-- a throw -/
theorem th_ {w : Nat × Int64} {k ik is ic sa : Nat} {text : String} (hq : FX p s m args c A ad cc nL own) (hlt : l.stackTraces = false) (ht : ∀ x ∈ c.exceptionTable.toList, False) (hk : meth.locks = false) (hw : w.1 = k) (hk0 : k ≠ 0) (hfit : Bundle.fit (exN k) = true)
    (hcl : Cond.classLink own ik (exN k) ∈ BT) (hini : Cond.initialized (exN k) ∈ BT) (hstr : vk_R own is text sa s) (hat : ∀ w ∈ vx_atS own ic (exN k) exU, w.before args s = true) (hgood : ∀ w ∈ Cond.classLink own ik (exN k) :: Cond.initialized (exN k) :: vx_atS own ic (exN k) exU, vx_ot w = true) (hsize : ls.size = nL)
    (d0 : decode cc pc = .ok (.new ik, 3)) (d3 : decode cc (pc + 3) = .ok (.dup, 1)) (d4 : decode cc (pc + 4) = .ok (.ldc is, 2)) (d6 : decode cc (pc + 6) = .ok (.invokespecial ic, 3)) (d9 : decode cc (pc + 9) = .ok (.athrow, 1))
    (hR : 5 < R.frames ∧ (rest.map fun v => v.category).sum + 82 ≤ R.locals ∧ 0 + 1 ≤ R.cells ∧ 0 + 6 ≤ R.slots) :
    W p l e R s m args below meth c s.heap [] 0 0 (vx_MQ below (te_S w) (te_X w) args s 1 6 (fun _ => False)) (F0 m pc ls rest) :=
  vx_throwS hq.1 hq.2.1 hlt hq.2.2.2.1 hfit (by decide +kernel) (hq.2.2.2.2.1 _ hcl) (hq.2.2.2.2.1 _ hini) hstr hat hgood hq.2.2.2.2.2.2.2.2.2.2.2.1 hq.2.2.2.2.2.2.2.2.2.2.2.2 va_S.rf (by rw [hsize, hq.2.2.1]) d0 d3 d4 d6 d9 (fun x hx => (ht x hx).elim)
    hR.1 hR.2.1 hR.2.2.1 hR.2.2.2 hk (fun t _ h1 h2 => ⟨by rw [hw]; exact hk0, by rw [hw], h1, h2⟩) (fun z hz => by cases hz) (Nat.le_refl _) (Nat.le_refl _)
end TP1
section TP2
variable {l : Launch} {y : MethodName} {cc : ByteArray} {maxL : Nat} {ret : Option FieldType} {rm : Room} {Qc : Array Value → State → Outcome → State → Prop} {XC : String → State → State → Prop} {mc ms : Nat} {free : Addr → Prop} {As : List Value} {A : Nat → Prop} {ad : Nat → Nat}
theorem pt_ (hy : plainName y.cls = true) (hn : (lg_sl As).length ≤ maxL)
    (body : ∀ (p : Program) (e : Env) (s : State) (m : MethodId) (below : List Frame) (meth : Method) (c : Code), FX p s m As.toArray c A ad cc maxL y.cls → NW ad s → (∀ x ∈ c.exceptionTable.toList, False) → meth.sig.returnType = ret → meth.locks = false → ∀ ls : Array Slot, lv_has ls maxL (lv_args 0 As) →
      W p l e rm s m As.toArray below meth c s.heap [] 0 0 (vx_MQ below Qc XC As.toArray s mc ms free) (F0 m 0 ls [])) : vx_Met l y (Cond.code y cc maxL ret :: BT) rm (PT A ad As) Qc XC mc ms free := by
  refine vx_ofW (cc := cc) (maxL := maxL) (ret := ret) hy rfl ?_
  intro p e s m args below meth c s₁ B hml ht hv
  obtain ⟨rfl, hF, hN⟩ := hv
  have hts := atoms_spec (ws := Cond.code y cc maxL ret :: BT) B.pre
  rw [lg_entry_eq]
  exact body p e s m below meth c ⟨B.exec, B.bytes, hml, findClass_of_methodNamed B.named, fun w h => hts w (List.mem_cons_of_mem _ h), hF⟩ hN ht B.returns B.notSynchronized _ (lv_entry As hn)
end TP2
/-- the words of a throw: the good ones by their places in the table, the others apart -/
theorem th_at {ad : Nat → Nat} {args : Array Value} {s : State} {own : String} {ic k : Nat} (ps : List Nat) (hts : ∀ w ∈ BT, w.before args s = true) (hN : NW ad s)
    (h1 : decide ((vx_atS own ic (exN k) exU).filter goodWord = ps.filterMap (fun i => lw_tbl[i]?)) = true)
    (h2 : ((vx_atS own ic (exN k) exU).filter (fun w => !goodWord w)).all (fun w => decide (w ∈ [Cond.declares (Bundle.initS "java/lang/RuntimeException"), Cond.declares (Bundle.initS "java/lang/Exception"), Cond.declares (Bundle.initS "java/lang/Throwable"), Cond.castable (exN 1) (exN 1), Cond.castable (exN 2) (exN 2), Cond.castable (exN 3) (exN 3), Cond.castable (exN 4) (exN 4)])) = true) :
    ∀ w ∈ vx_atS own ic (exN k) exU, w.before args s = true := by
  obtain ⟨n1, n2, n3, n4, n5, n6, n7, -⟩ := hN
  refine vx_hat (B := [Cond.declares (Bundle.initS "java/lang/RuntimeException"), Cond.declares (Bundle.initS "java/lang/Exception"), Cond.declares (Bundle.initS "java/lang/Throwable"), Cond.castable (exN 1) (exN 1), Cond.castable (exN 2) (exN 2), Cond.castable (exN 3) (exN 3), Cond.castable (exN 4) (exN 4)]) ?_ ?_ ?_
  · intro w hw
    have hg := (List.mem_filter.mp hw).2
    rw [decide_eq_true_eq.mp h1] at hw
    obtain ⟨i, -, hi⟩ := List.mem_filterMap.mp hw
    exact hts w (List.mem_filter.mpr ⟨List.mem_of_getElem? hi, hg⟩)
  · intro w hw
    exact decide_eq_true_eq.mp (List.all_eq_true.mp h2 w hw)
  · exact vx_c (va_Nw.use rfl n1) (vx_c (va_Nw.use rfl n2) (vx_c (va_Nw.use rfl n3) (vx_c (va_Nw.use rfl n4) (vx_c (va_Nw.use rfl n5) (vx_c (va_Nw.use rfl n6) (vx_c (va_Nw.use rfl n7) vx_n))))))
