/-! THE REFERENCE'S OBJECT AND ITS ROW OF BITS, and the class's object: classes, fields, rows for walks -/
def TR : u_T := fun k => match k with
  | 0 => ("BitArithmeticModel", "code", "I", false)
  | 1 => ("BitArithmeticModel", "latest", "J", false)
  | 2 => ("BitArithmeticModel", "row", "[B", true)
  | 3 => ("BitArithmeticModel", "low", "I", false)
  | 4 => ("BitArithmeticModel", "high", "I", false)
  | 5 => ("BitArithmeticModel", "rest", "Z", false)
  | 6 => ("BitArithmeticModel", "width", "I", false)
  | 7 => ("BitArithmeticModel", "fraction", "I", false)
  | 8 => ("BitArithmeticModel", "bias", "I", false)
  | 9 => ("BitArithmeticModel", "minus", "Z", false)
  | 10 => ("BitArithmeticModel", "amount", "J", false)
  | _ => ("BitArithmeticModel", "weight", "I", false)
def tR : Nat → FieldType := fun k => match k with
  | 0 => .int
  | 1 => .long
  | 2 => .array .byte
  | 3 => .int
  | 4 => .int
  | 5 => .boolean
  | 6 => .int
  | 7 => .int
  | 8 => .int
  | 9 => .boolean
  | 10 => .long
  | _ => .int
def TM : u_T := fun k => match k with
  | _ => ("BitArithmetic", "latest", "J", false)
def tM : Nat → FieldType := fun k => match k with
  | _ => .long
abbrev nRf : String := "BitArithmeticModel"
abbrev nMn : String := "BitArithmetic"
abbrev clR : List vw_C := [(nRf, TR, 12), (nMn, TM, 1)]
theorem nmR : ∀ a, a < 12 → ∀ b, b < 12 → a ≠ b → (TR a).2.1 ≠ (TR b).2.1 := by decide +kernel
theorem tR_ok : ∀ k, k < 12 → parseFieldDescriptor (TR k).2.2.1 = some (tR k) := by decide +kernel
theorem nmM : ∀ a, a < 1 → ∀ b, b < 1 → a ≠ b → (TM a).2.1 ≠ (TM b).2.1 := by decide +kernel
theorem tM_ok : ∀ k, k < 1 → parseFieldDescriptor (TM k).2.2.1 = some (tM k) := by decide +kernel
theorem uw_mem {ws : List Cond} (ps : List Nat) (h1 : decide (ws = ps.filterMap (fun i => lw_tbl[i]?)) = true) (h2 : ws.all goodWord = true) : ∀ w ∈ ws, w ∈ BT := by
  intro w hw
  have hg := List.all_eq_true.mp h2 w hw
  rw [decide_eq_true_eq.mp h1] at hw
  obtain ⟨i, -, hi⟩ := List.mem_filterMap.mp hw
  exact List.mem_filter.mpr ⟨List.mem_of_getElem? hi, hg⟩
theorem uwR : ∀ w ∈ u_ws nRf TR 12, w ∈ BT := uw_mem [496, 498, 500, 502, 504, 506, 508, 510, 512, 514, 516, 518] (by decide +kernel) (by decide +kernel)
theorem uwM : ∀ w ∈ u_ws nMn TM 1, w ∈ BT := uw_mem [65] (by decide +kernel) (by decide +kernel)
/-- the fields of the reference -/
abbrev rf_ (cd : Int32) (la : Int64) (r : Nat) (lo hi re wi fr bi mi : Int32) (am : Int64) (we : Int32) : List Value := [.int cd, .long la, .ref r, .int lo, .int hi, .int re, .int wi, .int fr, .int bi, .int mi, .long am, .int we]
abbrev rw_ (o r : Nat) (cB : ClassId) (fs : List Value) (f : Nat → Int32) : va_W := [(o, .inr (0, fs)), (r, .inl (cB, 4400, .inl f))]
abbrev tyR (cB cJ : ClassId) : List (ClassId × FieldType) := [(cB, .byte), (cJ, .long)]
def rA (o r : Nat) : Nat → Prop := fun q => q = o ∨ q = r
theorem rw_D {A : Nat → Prop} {o r : Nat} {cB : ClassId} {fs : List Value} {f : Nat → Int32} (hne : o ≠ r) (ho : A o) (hr : A r) : va_D A (rw_ o r cB fs f) := by
  refine ⟨fun i j p q hi hj e => ?_, fun k q hk => ?_⟩
  · match i, j, hi, hj with
    | 0, 0, _, _ => rfl
    | 1, 1, _, _ => rfl
    | 0, 1, hi, hj => cases hi; cases hj; exact absurd e hne
    | 1, 0, hi, hj => cases hi; cases hj; exact absurd e.symm hne
    | i + 2, _, hi, _ => simp at hi
    | _, j + 2, _, hj => simp at hj
  · match k, hk with
    | 0, hk => cases hk; exact ho
    | 1, hk => cases hk; exact hr
    | k + 2, hk => simp at hk
/-- what a method of the reference starts from -/
def PR (A : Nat → Prop) (ad : Nat → Nat) (D : va_G) (cB cJ : ClassId) (o r : Nat) (fs : List Value) (f : Nat → Int32) (As : List Value) : Array Value → State → Prop :=
  va_Pc (.ref o :: As) (fun U => FW A ad U U.heap ∧ va_P D clR (rw_ o r cB fs f) U.heap ∧ va_K D clR (tyR cB cJ) U)
def QRl (D : va_G) (cB : ClassId) (o r : Nat) (v : Int64) (fs : List Value) (f : Nat → Int32) : Array Value → State → Outcome → State → Prop := fun _ st oc t => oc = .returned (some (.long v)) ∧ va_P D clR (rw_ o r cB fs f) t.heap ∧ va_F (rA o r) st t
def QRi (D : va_G) (cB : ClassId) (o r : Nat) (v : Int32) (fs : List Value) (f : Nat → Int32) : Array Value → State → Outcome → State → Prop := fun _ st oc t => oc = .returned (some (.int v)) ∧ va_P D clR (rw_ o r cB fs f) t.heap ∧ va_F (rA o r) st t
def QRv (D : va_G) (cB : ClassId) (o r : Nat) (fs : List Value) (f : Nat → Int32) : Array Value → State → Outcome → State → Prop := fun _ st oc t => oc = .returned none ∧ va_P D clR (rw_ o r cB fs f) t.heap ∧ va_F (rA o r) st t
theorem pr_blind {A : Nat → Prop} {ad : Nat → Nat} {D : va_G} {cB cJ : ClassId} {o r : Nat} {fs : List Value} {f : Nat → Int32} {As : List Value} : FrameBlind (PR A ad D cB cJ o r fs f As) :=
  fun a U g mk q => ⟨q.1, FW.moved (u := U) (U := U.calling g mk a) (Vm.Alike.refl U.vm) q.2.1, q.2.2.1, va_K.moved (u := U) (U := U.calling g mk a) (Vm.Alike.refl U.vm) q.2.2.2⟩
/-- the facts of a walked method of the reference -/
def FR (p : Program) (s : State) (m : MethodId) (args : Array Value) (c : Code) (A : Nat → Prop) (ad : Nat → Nat) (D : va_G) (cB cJ : ClassId) (cc : ByteArray) (nL : Nat) (own : String) : Prop :=
  p.tables.exec = Jvm.exec ∧ c.code = cc ∧ c.maxLocals = nL ∧ s.vm.findClass own = some m.cls ∧ (∀ w ∈ BT, w.before args s = true) ∧ FW A ad s s.heap ∧ va_K D clR (tyR cB cJ) s
/-- the words of an instance method of the reference -/
def RB (y : MethodName) (bytes : ByteArray) (maxL : Nat) (ret : Option FieldType) (n : Nat) : Prop :=
  Cond.code y bytes maxL ret ∈ BT ∧ Cond.instanceMethod y ∈ BT ∧ Cond.selects nRf y y ∈ BT ∧ Cond.initialized y.cls ∈ BT ∧ (y.cls ≠ "java/lang/invoke/MethodHandle" ∧ y.cls ≠ "java/lang/invoke/VarHandle" ∧ (parseMethodDescriptor y.desc).map (fun d => d.parameters.length) = some n)
section RF1
variable {p : Program} {l : Launch} {e : Env} {R : Room} {s : State} {m : MethodId} {args : Array Value} {below : List Frame} {meth : Method} {c : Code} {H : Heap} {locs : List Loc} {cells slots : Nat} {Q : State → Prop}
variable {A : Nat → Prop} {ad : Nat → Nat} {D : va_G} {cB cJ : ClassId} {o r : Nat} {fs fs' : List Value} {f f' : Nat → Int32} {cc bytes : ByteArray} {nL maxL n index pc : Nat} {own : String} {y : MethodName} {ret : Option FieldType} {rm : Room} {As rest st0 : List Value} {ls : Array Slot}
theorem fr_cf (hq : FR p s m args c A ad D cB cJ cc nL own) : CallFix p m c cc nL s args BT own := ⟨hq.1, hq.2.1, hq.2.2.1, hq.2.2.2.1, hq.2.2.2.2.1⟩
theorem fr_cb (hq : FR p s m args c A ad D cB cJ cc nL own) (hc : Cond.code y bytes maxL ret ∈ BT) (hi : Cond.initialized y.cls ∈ BT) (hd : y.cls ≠ "java/lang/invoke/MethodHandle" ∧ y.cls ≠ "java/lang/invoke/VarHandle" ∧ (parseMethodDescriptor y.desc).map (fun d => d.parameters.length) = some n)
    (hl : Cond.methodLink own index y ∈ BT) (hR : rm.frames + 1 ≤ R.frames ∧ 8 + (maxL + 11) + rm.locals ≤ R.locals) : CallB R s args own index y bytes maxL ret (Cond.code y bytes maxL ret :: BT) rm rm.cells rm.slots n :=
  callB_of n hq.2.2.2.2.1 (bt_GI hc) rfl rfl rfl (hq.2.2.2.2.1 _ hi) (hq.2.2.2.2.1 _ hl) hd hR
/-- static methods that only reckon -/
theorem hl_ {v : Int64} (hq : FR p s m args c A ad D cB cJ cc nL own) (hA : ∀ q, rA o r q → A q) (hS : va_S (rA o r) s.heap H locs) (hM : Met l y (Cond.code y bytes maxL ret :: BT) rm (PC A ad As) (vp_Sl (fun r => r = v)) 0 0 (fun _ => False)) (K : SB y bytes maxL ret n) (hl : Cond.methodLink own index y ∈ BT)
    (hrm : rm.cells = 0 ∧ rm.slots = 0 ∧ rm.frames + 1 ≤ R.frames ∧ 8 + (maxL + 11) + rm.locals ≤ R.locals) (hn : As.length = n) (hsize : ls.size = nL) (hstack : st0 = As.reverse ++ rest) (hW : (rest.map fun v => v.category).sum ≤ 8)
    (hdg : decode cc pc = .ok (.invokestatic index, 3)) (hf : cells ≤ R.cells ∧ slots ≤ R.slots) (kk : W p l e R s m args below meth c H locs cells slots Q (F0 m (pc + 3) ls (.long v :: rest))) : W p l e R s m args below meth c H locs cells slots Q (F0 m pc ls st0) := by
  obtain ⟨k1, k2, k3, k4⟩ := K
  obtain ⟨r1, r2, r3⟩ := hrm
  have cb := fr_cb (R := R) (rm := rm) hq k1 k3 k4 hl r3
  rw [r1, r2] at cb
  have hFH : FW A ad s H := FW.kept hq.2.2.2.2.2.1 (fun a h1 h2 => hS.2.1 a h1 (fun z => h2 (hA a z)))
  exact vp_callSl (W.runS (fr_cf hq) hM ⟨cb, hq.2.2.2.2.1 _ k2⟩ ⟨fw_blind, fun U hU hW => ⟨rfl, show FW A ad U U.heap from by rw [hU]; exact FW.moved hW.alike hFH⟩⟩ rfl hn hsize hstack (lv_room hW) hdg hf) (fun r hr => by rw [hr]; exact kk)
theorem hi_ {v : Int32} (hq : FR p s m args c A ad D cB cJ cc nL own) (hA : ∀ q, rA o r q → A q) (hS : va_S (rA o r) s.heap H locs) (hM : Met l y (Cond.code y bytes maxL ret :: BT) rm (PC A ad As) (vp_Si (fun r => r = v)) 0 0 (fun _ => False)) (K : SB y bytes maxL ret n) (hl : Cond.methodLink own index y ∈ BT)
    (hrm : rm.cells = 0 ∧ rm.slots = 0 ∧ rm.frames + 1 ≤ R.frames ∧ 8 + (maxL + 11) + rm.locals ≤ R.locals) (hn : As.length = n) (hsize : ls.size = nL) (hstack : st0 = As.reverse ++ rest) (hW : (rest.map fun v => v.category).sum ≤ 8)
    (hdg : decode cc pc = .ok (.invokestatic index, 3)) (hf : cells ≤ R.cells ∧ slots ≤ R.slots) (kk : W p l e R s m args below meth c H locs cells slots Q (F0 m (pc + 3) ls (.int v :: rest))) : W p l e R s m args below meth c H locs cells slots Q (F0 m pc ls st0) := by
  obtain ⟨k1, k2, k3, k4⟩ := K
  obtain ⟨r1, r2, r3⟩ := hrm
  have cb := fr_cb (R := R) (rm := rm) hq k1 k3 k4 hl r3
  rw [r1, r2] at cb
  have hFH : FW A ad s H := FW.kept hq.2.2.2.2.2.1 (fun a h1 h2 => hS.2.1 a h1 (fun z => h2 (hA a z)))
  exact vp_callSi (W.runS (fr_cf hq) hM ⟨cb, hq.2.2.2.2.1 _ k2⟩ ⟨fw_blind, fun U hU hW => ⟨rfl, show FW A ad U U.heap from by rw [hU]; exact FW.moved hW.alike hFH⟩⟩ rfl hn hsize hstack (lv_room hW) hdg hf) (fun r hr => by rw [hr]; exact kk)
/-- its own methods -/
theorem rv_pre (hq : FR p s m args c A ad D cB cJ cc nL own) (hA : ∀ q, rA o r q → A q) (hP : va_P D clR (rw_ o r cB fs f) H) (hS : va_S (rA o r) s.heap H locs) : PreV s H nRf o (PR A ad D cB cJ o r fs f As) As := by
  have hFH : FW A ad s H := FW.kept hq.2.2.2.2.2.1 (fun a h1 h2 => hS.2.1 a h1 (fun z => h2 (hA a z)))
  exact ⟨pr_blind, va_recv hq.2.2.2.2.2.2 hP (ci := 0) (q0 := 0) rfl rfl, fun U hU hW => ⟨rfl, show FW A ad U U.heap from by rw [hU]; exact FW.moved hW.alike hFH, by rw [hU]; exact hP, va_K.moved hW.alike hq.2.2.2.2.2.2⟩⟩
theorem rv_S {st₀ t T' : State} {L : List Loc} (h0 : st₀.heap = H) (e1 : T'.heap = t.heap) (hS : va_S (rA o r) s.heap H locs) (hL : ∀ q ∈ L, rA o r q.base) (hF : va_F (rA o r) st₀ t) : va_S (rA o r) s.heap T'.heap (locs ++ L) :=
  (vx_keep (A0 := rA o r) (A1 := rA o r) (free := rA o r) h0 e1 hS (fun _ _ h => h) (fun _ h => h) hL hF).2.2
theorem rv_l {v : Int64} (hq : FR p s m args c A ad D cB cJ cc nL own) (hA : ∀ q, rA o r q → A q) (hP : va_P D clR (rw_ o r cB fs f) H) (hS : va_S (rA o r) s.heap H locs) (hM : Met l y (Cond.code y bytes maxL ret :: BT) rm (PR A ad D cB cJ o r fs f As) (QRl D cB o r v fs' f') 0 0 (rA o r)) (K : RB y bytes maxL ret n) (hl : Cond.methodLink own index y ∈ BT)
    (hrm : rm.cells = 0 ∧ rm.slots = 0 ∧ rm.frames + 1 ≤ R.frames ∧ 8 + (maxL + 11) + rm.locals ≤ R.locals) (hn : As.length = n) (hsize : ls.size = nL) (hstack : st0 = As.reverse ++ .ref o :: rest) (hW : (rest.map fun v => v.category).sum ≤ 8)
    (hdg : decode cc pc = .ok (.invokevirtual index, 3)) (hf : cells ≤ R.cells ∧ slots ≤ R.slots) (kk : ∀ (H : Heap) (locs : List Loc), va_P D clR (rw_ o r cB fs' f') H → va_S (rA o r) s.heap H locs → W p l e R s m args below meth c H locs cells slots Q (F0 m (pc + 3) ls (.long v :: rest))) : W p l e R s m args below meth c H locs cells slots Q (F0 m pc ls st0) := by
  obtain ⟨k1, k2, k2', k3, k4⟩ := K
  obtain ⟨r1, r2, r3⟩ := hrm
  have cb := fr_cb (R := R) (rm := rm) hq k1 k3 k4 hl r3
  rw [r1, r2] at cb
  have hr := W.runV (p := p) (e := e) (below := below) (meth := meth) (locs := locs) (cells := cells) (slots := slots) (rest := rest) (g := F0 m pc ls st0) (fr_cf hq) hM ⟨cb, hq.2.2.2.2.1 _ k2, hq.2.2.2.2.1 _ k2'⟩ (rv_pre hq hA hP hS) rfl hn hsize hstack (lv_room hW) hdg hf
  intro T hT X
  obtain ⟨v9, st₀, t, T', L, h0, X', hL, e1, ⟨hv, hp, hF⟩, st⟩ := hr T hT X
  cases hv
  obtain ⟨t2, a1, b1⟩ := kk T'.heap (locs ++ L) (by rw [e1]; exact hp) (rv_S h0 e1 hS hL hF) T' rfl X'
  exact ⟨t2, st t2 a1, b1⟩
theorem rv_i {v : Int32} (hq : FR p s m args c A ad D cB cJ cc nL own) (hA : ∀ q, rA o r q → A q) (hP : va_P D clR (rw_ o r cB fs f) H) (hS : va_S (rA o r) s.heap H locs) (hM : Met l y (Cond.code y bytes maxL ret :: BT) rm (PR A ad D cB cJ o r fs f As) (QRi D cB o r v fs' f') 0 0 (rA o r)) (K : RB y bytes maxL ret n) (hl : Cond.methodLink own index y ∈ BT)
    (hrm : rm.cells = 0 ∧ rm.slots = 0 ∧ rm.frames + 1 ≤ R.frames ∧ 8 + (maxL + 11) + rm.locals ≤ R.locals) (hn : As.length = n) (hsize : ls.size = nL) (hstack : st0 = As.reverse ++ .ref o :: rest) (hW : (rest.map fun v => v.category).sum ≤ 8)
    (hdg : decode cc pc = .ok (.invokevirtual index, 3)) (hf : cells ≤ R.cells ∧ slots ≤ R.slots) (kk : ∀ (H : Heap) (locs : List Loc), va_P D clR (rw_ o r cB fs' f') H → va_S (rA o r) s.heap H locs → W p l e R s m args below meth c H locs cells slots Q (F0 m (pc + 3) ls (.int v :: rest))) : W p l e R s m args below meth c H locs cells slots Q (F0 m pc ls st0) := by
  obtain ⟨k1, k2, k2', k3, k4⟩ := K
  obtain ⟨r1, r2, r3⟩ := hrm
  have cb := fr_cb (R := R) (rm := rm) hq k1 k3 k4 hl r3
  rw [r1, r2] at cb
  have hr := W.runV (p := p) (e := e) (below := below) (meth := meth) (locs := locs) (cells := cells) (slots := slots) (rest := rest) (g := F0 m pc ls st0) (fr_cf hq) hM ⟨cb, hq.2.2.2.2.1 _ k2, hq.2.2.2.2.1 _ k2'⟩ (rv_pre hq hA hP hS) rfl hn hsize hstack (lv_room hW) hdg hf
  intro T hT X
  obtain ⟨v9, st₀, t, T', L, h0, X', hL, e1, ⟨hv, hp, hF⟩, st⟩ := hr T hT X
  cases hv
  obtain ⟨t2, a1, b1⟩ := kk T'.heap (locs ++ L) (by rw [e1]; exact hp) (rv_S h0 e1 hS hL hF) T' rfl X'
  exact ⟨t2, st t2 a1, b1⟩
theorem rv_v (hq : FR p s m args c A ad D cB cJ cc nL own) (hA : ∀ q, rA o r q → A q) (hP : va_P D clR (rw_ o r cB fs f) H) (hS : va_S (rA o r) s.heap H locs) (hM : Met l y (Cond.code y bytes maxL ret :: BT) rm (PR A ad D cB cJ o r fs f As) (QRv D cB o r fs' f') 0 0 (rA o r)) (K : RB y bytes maxL ret n) (hl : Cond.methodLink own index y ∈ BT)
    (hrm : rm.cells = 0 ∧ rm.slots = 0 ∧ rm.frames + 1 ≤ R.frames ∧ 8 + (maxL + 11) + rm.locals ≤ R.locals) (hn : As.length = n) (hsize : ls.size = nL) (hstack : st0 = As.reverse ++ .ref o :: rest) (hW : (rest.map fun v => v.category).sum ≤ 8)
    (hdg : decode cc pc = .ok (.invokevirtual index, 3)) (hf : cells ≤ R.cells ∧ slots ≤ R.slots) (kk : ∀ (H : Heap) (locs : List Loc), va_P D clR (rw_ o r cB fs' f') H → va_S (rA o r) s.heap H locs → W p l e R s m args below meth c H locs cells slots Q (F0 m (pc + 3) ls rest)) : W p l e R s m args below meth c H locs cells slots Q (F0 m pc ls st0) := by
  obtain ⟨k1, k2, k2', k3, k4⟩ := K
  obtain ⟨r1, r2, r3⟩ := hrm
  have cb := fr_cb (R := R) (rm := rm) hq k1 k3 k4 hl r3
  rw [r1, r2] at cb
  have hr := W.runV (p := p) (e := e) (below := below) (meth := meth) (locs := locs) (cells := cells) (slots := slots) (rest := rest) (g := F0 m pc ls st0) (fr_cf hq) hM ⟨cb, hq.2.2.2.2.1 _ k2, hq.2.2.2.2.1 _ k2'⟩ (rv_pre hq hA hP hS) rfl hn hsize hstack (lv_room hW) hdg hf
  intro T hT X
  obtain ⟨v9, st₀, t, T', L, h0, X', hL, e1, ⟨hv, hp, hF⟩, st⟩ := hr T hT X
  cases hv
  obtain ⟨t2, a1, b1⟩ := kk T'.heap (locs ++ L) (by rw [e1]; exact hp) (rv_S h0 e1 hS hL hF) T' rfl X'
  exact ⟨t2, st t2 a1, b1⟩
/-- its fields -/
theorem rg_ (k : Nat) {v : Value} (hq : FR p s m args c A ad D cB cJ cc nL own) (hP : va_P D clR (rw_ o r cB fs f) H) (hk : k < 12) (hl : Cond.fieldLink own index nRf (TR k).2.1 (TR k).2.2.1 ∈ BT) (ht : (TR k).1 = nRf) (hv : fs[k]? = some v) (hdg : decode cc pc = .ok (.getfield index, 3))
    (kk : W p l e R s m args below meth c H locs cells slots Q (F0 m (pc + 3) ls (v :: rest))) : W p l e R s m args below meth c H locs cells slots Q (F0 m pc ls (.ref o :: rest)) :=
  va_get (ci := 0) (C := nRf) (T := TR) (N := 12) hq.1 hq.2.1 hq.2.2.2.2.1 uwR hq.2.2.2.1 hq.2.2.2.2.2.2 hP 0 rfl rfl k hk (hq.2.2.2.2.1 _ hl) (fun _ h9 => by rw [ht] at h9; exact h9) hv hdg kk
theorem rp_ (k : Nat) {v : Value} {ty : FieldType} (hq : FR p s m args c A ad D cB cJ cc nL own) (hne : o ≠ r) (hP : va_P D clR (rw_ o r cB fs f) H) (hS : va_S (rA o r) s.heap H locs) (hk : k < 12) (hl : Cond.fieldLink own index nRf (TR k).2.1 (TR k).2.2.1 ∈ BT) (ht : (TR k).1 = nRf) (hfin : (TR k).2.2.2 = false) (hd : parseFieldDescriptor (TR k).2.2.1 = some ty) (hn : narrow ty v = v) (hfit : fits ty v = true) (hlen : k < fs.length) (hdg : decode cc pc = .ok (.putfield index, 3))
    (kk : ∀ (H : Heap) (locs : List Loc), va_P D clR (rw_ o r cB (fs.set k v) f) H → va_S (rA o r) s.heap H locs → W p l e R s m args below meth c H locs cells slots Q (F0 m (pc + 3) ls rest)) : W p l e R s m args below meth c H locs cells slots Q (F0 m pc ls (v :: .ref o :: rest)) :=
  va_put (ci := 0) (C := nRf) (T := TR) (N := 12) hq.1 hq.2.1 hq.2.2.2.2.1 uwR tR tR_ok nmR hq.2.2.2.1 hq.2.2.2.2.2.2 hP (rw_D (A := rA o r) hne (Or.inl rfl) (Or.inr rfl)) hS 0 rfl rfl k hk (hq.2.2.2.2.1 _ hl) (fun _ h9 => by rw [ht] at h9; exact h9) hfin hd hn hfit hlen hdg (fun H1 locs1 a1 _ a3 => kk H1 locs1 a1 a3)
/-- its ends -/
theorem rr_l {v w : Int64} (hq : FR p s m args c A ad D cB cJ cc nL own) (hr : meth.sig.returnType = some .long) (hk : meth.locks = false) (hP : va_P D clR (rw_ o r cB fs f) H) (hS : va_S (rA o r) s.heap H locs) (hv : v = w) (hfs : fs = fs') (hf : f = f') (hdg : decode cc pc = .ok (.lreturn, 1)) :
    W p l e R s m args below meth c H locs cells slots (MQ below (QRl D cB o r w fs' f') args s cells slots (rA o r)) (F0 m pc ls [.long v]) := by
  subst hv hfs hf
  exact W.lret hq.1 hq.2.1 hr (fun t ht _ => ⟨rfl, by rw [ht]; exact hP, hS.F ht⟩) hS.2.2 hdg
theorem rr_i {v w : Int32} (hq : FR p s m args c A ad D cB cJ cc nL own) (hr : meth.sig.returnType = some .int) (hk : meth.locks = false) (hP : va_P D clR (rw_ o r cB fs f) H) (hS : va_S (rA o r) s.heap H locs) (hv : v = w) (hfs : fs = fs') (hf : f = f') (hdg : decode cc pc = .ok (.ireturn, 1)) :
    W p l e R s m args below meth c H locs cells slots (MQ below (QRi D cB o r w fs' f') args s cells slots (rA o r)) (F0 m pc ls [.int v]) := by
  subst hv hfs hf
  exact W.iret hq.1 hq.2.1 hr (fun t ht _ => ⟨rfl, by rw [ht]; exact hP, hS.F ht⟩) hS.2.2 hdg
theorem rr_z {v w : Int32} (hq : FR p s m args c A ad D cB cJ cc nL own) (hr : meth.sig.returnType = some .boolean) (hk : meth.locks = false) (hn : narrow .boolean (.int v) = .int v) (hP : va_P D clR (rw_ o r cB fs f) H) (hS : va_S (rA o r) s.heap H locs) (hv : v = w) (hfs : fs = fs') (hf : f = f') (hdg : decode cc pc = .ok (.ireturn, 1)) :
    W p l e R s m args below meth c H locs cells slots (MQ below (QRi D cB o r w fs' f') args s cells slots (rA o r)) (F0 m pc ls [.int v]) := by
  subst hv hfs hf
  exact W.zret hq.1 hq.2.1 hr hn (fun t ht _ => ⟨rfl, by rw [ht]; exact hP, hS.F ht⟩) hS.2.2 hdg
theorem rr_v (hq : FR p s m args c A ad D cB cJ cc nL own) (hr : meth.sig.returnType = none) (hk : meth.locks = false) (hP : va_P D clR (rw_ o r cB fs f) H) (hS : va_S (rA o r) s.heap H locs) (hfs : fs = fs') (hf : f = f') (hdg : decode cc pc = .ok (.return_, 1)) :
    W p l e R s m args below meth c H locs cells slots (MQ below (QRv D cB o r fs' f') args s cells slots (rA o r)) (F0 m pc ls []) := by
  subst hfs hf
  exact W.vret hq.1 hq.2.1 hr (fun t ht _ => ⟨rfl, by rw [ht]; exact hP, hS.F ht⟩) hS.2.2 hdg
end RF1
section RF2
variable {l : Launch} {y : MethodName} {cc : ByteArray} {maxL : Nat} {ret : Option FieldType} {rm : Room} {Qc : Array Value → State → Outcome → State → Prop} {mc ms : Nat} {free : Addr → Prop} {As : List Value} {A : Nat → Prop} {ad : Nat → Nat} {D : va_G} {cB cJ : ClassId} {o r : Nat} {fs : List Value} {f : Nat → Int32}
theorem pr_ (hy : plainName y.cls = true) (hn : (lg_sl (.ref o :: As)).length ≤ maxL)
    (body : ∀ (p : Program) (e : Env) (s : State) (m : MethodId) (below : List Frame) (meth : Method) (c : Code), FR p s m (Value.ref o :: As).toArray c A ad D cB cJ cc maxL y.cls → va_P D clR (rw_ o r cB fs f) s.heap → va_S (rA o r) s.heap s.heap [] → meth.sig.returnType = ret → meth.locks = false → ∀ ls : Array Slot, lv_has ls maxL (lv_args 0 (.ref o :: As)) →
      W p l e rm s m (Value.ref o :: As).toArray below meth c s.heap [] 0 0 (MQ below Qc (Value.ref o :: As).toArray s mc ms free) (F0 m 0 ls [])) : Met l y (Cond.code y cc maxL ret :: BT) rm (PR A ad D cB cJ o r fs f As) Qc mc ms free := by
  refine Met.ofW (cc := cc) (maxL := maxL) (ret := ret) hy rfl ?_
  intro p e s m args below meth c s₁ B hml hv
  obtain ⟨rfl, hF, hP, hK⟩ := hv
  have hts := atoms_spec (ws := Cond.code y cc maxL ret :: BT) B.pre
  rw [lg_entry_eq]
  exact body p e s m below meth c ⟨B.exec, B.bytes, hml, findClass_of_methodNamed B.named, fun w h => hts w (List.mem_cons_of_mem _ h), hF, hK⟩ hP va_S.rf B.returns B.notSynchronized _ (lv_entry (.ref o :: As) hn)
end RF2
