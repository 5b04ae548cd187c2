/-! THE CLASS'S OWN OBJECT: what its methods start from and end in -/
abbrev mw_ (x : Nat) (la : Int64) : va_W := [(x, .inr (1, [.long la]))]
def mA (x : Nat) : Nat → Prop := fun q => q = x
theorem mw_D {A : Nat → Prop} {x : Nat} {la : Int64} (h : A x) : va_D A (mw_ x la) := by
  refine ⟨fun i j p q hi hj _ => ?_, fun k q hk => ?_⟩
  · match i, j, hi, hj with
    | 0, 0, _, _ => rfl
    | i + 1, _, hi, _ => simp at hi
    | _, j + 1, _, hj => simp at hj
  · match k, hk with
    | 0, hk => cases hk; exact h
    | k + 1, hk => simp at hk
def PM (A : Nat → Prop) (ad : Nat → Nat) (D : va_G) (cB cJ : ClassId) (x : Nat) (la : Int64) (As : List Value) : Array Value → State → Prop :=
  va_Pc (.ref x :: As) (fun U => FW A ad U U.heap ∧ NW ad U ∧ va_P D clR (mw_ x la) U.heap ∧ va_K D clR (tyR cB cJ) U)
theorem pm_blind {A : Nat → Prop} {ad : Nat → Nat} {D : va_G} {cB cJ : ClassId} {x : Nat} {la : Int64} {As : List Value} : FrameBlind (PM A ad D cB cJ x la As) :=
  fun a U g mk q => ⟨q.1, FW.moved (u := U) (U := U.calling g mk a) (Vm.Alike.refl U.vm) q.2.1, NW.same rfl q.2.2.1, q.2.2.2.1, va_K.moved (u := U) (U := U.calling g mk a) (Vm.Alike.refl U.vm) q.2.2.2.2⟩
def QM (D : va_G) (x : Nat) (w : Nat × Int64) : Array Value → State → Outcome → State → Prop := fun _ st oc t => ∃ v, oc = .returned (some (.long v)) ∧ w = (0, v) ∧ va_P D clR (mw_ x v) t.heap ∧ va_F (mA x) st t
section MM1
variable {p : Program} {l : Launch} {e : Env} {R : Room} {s : State} {m : MethodId} {args : Array Value} {below : List Frame} {meth : Method} {c : Code} {cells slots : Nat}
variable {A : Nat → Prop} {ad : Nat → Nat} {cc bytes : ByteArray} {nL maxL n index pc : Nat} {own : String} {y : MethodName} {ret : Option FieldType} {rm : Room} {As rest st0 : List Value} {ls : Array Slot} {Qc : Array Value → State → Outcome → State → Prop} {free : Addr → Prop}
/-- a call of a method that reckons or throws -/
theorem ml_ {w : Nat × Int64} (hq : FX p s m args c A ad cc nL own) (hN : NW ad s) (ht : ∀ x ∈ c.exceptionTable.toList, False) (hk : meth.locks = false) (hM : vx_Met l y (Cond.code y bytes maxL ret :: BT) rm (PT A ad As) (te_S w) (te_X w) 1 6 (fun _ => False)) (K : SB y bytes maxL ret n) (hl : Cond.methodLink own index y ∈ BT)
    (hrm : rm.cells = 1 ∧ rm.slots = 6 ∧ rm.frames + 1 ≤ R.frames ∧ 8 + (maxL + 11) + rm.locals ≤ R.locals) (hn : As.length = n) (hsize : ls.size = nL) (hstack : st0 = As.reverse ++ rest) (hW : (rest.map fun v => v.category).sum ≤ 8)
    (hdg : decode cc pc = .ok (.invokestatic index, 3)) (hf : 0 + 1 ≤ R.cells ∧ 0 + 6 ≤ R.slots)
    (kk : w.1 = 0 → W p l e R s m args below meth c s.heap [] 1 6 (vx_MQ below Qc (te_X w) args s 1 6 free) (F0 m (pc + 3) ls (.long w.2 :: rest))) :
    W p l e R s m args below meth c s.heap [] 0 0 (vx_MQ below Qc (te_X w) args s 1 6 free) (F0 m pc ls st0) := by
  obtain ⟨k1, k2, k3, k4⟩ := K
  obtain ⟨r1, r2, r3⟩ := hrm
  have cb := bt_cb (R := R) (rm := rm) hq k1 k3 k4 hl r3
  rw [r1, r2] at cb
  have hr := vx_runS (p := p) (e := e) (below := below) (meth := meth) (locs := []) (cells := 0) (slots := 0) (rest := rest) (g := F0 m pc ls st0) (fx_cf hq) hM ⟨cb, hq.2.2.2.2.1 _ k2⟩ (pt_pre hq.2.2.2.2.2 hN) rfl hn hsize hstack (lv_room hW) hdg hf
  intro T hT X
  rcases hr T hT X with ⟨v, st₀, t, T', L, h0, X', hL, e1, e2, ⟨r, hv, hp, hh⟩, st⟩ | ⟨q, st₀, t, T', L, E, ce, h0, X', hL, e1, e2, ⟨hp, hE, hz, hkp⟩, hce, hcv, hcl, st⟩
  · cases hv
    have hw2 : w.2 = r := by rw [hp]
    obtain ⟨t2, a1, b1⟩ := kk (by rw [hp]) T' (by rw [e1, hh, h0]) (Stand.forget X' (fun q h => (hL q h).elim))
    rw [hw2] at a1
    exact ⟨t2, st t2 a1, b1⟩
  · have XX := Stand.forget X' (fun q h => (hL q h).elim)
    obtain ⟨t2, a1, b1⟩ := vx_out (p := p) (l := l) (e := e) (R := R) (args := args) (below := below) (Qc := Qc) (XC := te_X w) (free := free) (pc := pc) (ls := ls) (rest := rest) (E := E) (H := T'.heap) (mc := 1) (ms := 6) (fun x hx => (ht x hx).elim) hk (by rw [e1]; exact hce) hcv hcl
      (fun t9 h9 _ => ⟨hp, hE, by rw [h9, e1, ← h0]; exact hz, fun z hz9 => by rw [h9, e1, hkp z (by rw [h0]; exact hz9), h0]⟩) (fun z hz => by cases hz) (Nat.le_refl _) (Nat.le_refl _) T' rfl XX
    exact ⟨t2, st.trans a1, b1⟩
end MM1
section MM2
variable {l : Launch} {y : MethodName} {cc : ByteArray} {maxL : Nat} {ret : Option FieldType} {rm : Room} {Qc : Array Value → State → Outcome → State → Prop} {XC : String → State → State → Prop} {mc ms : Nat} {free : Addr → Prop} {As : List Value} {A : Nat → Prop} {ad : Nat → Nat} {D : va_G} {cB cJ : ClassId} {x : Nat} {la : Int64}
theorem pm_1 (hy : plainName y.cls = true) (hn : (lg_sl (.ref x :: As)).length ≤ maxL)
    (body : ∀ (p : Program) (e : Env) (s : State) (m : MethodId) (below : List Frame) (meth : Method) (c : Code), FX p s m (Value.ref x :: As).toArray c A ad cc maxL y.cls → NW ad s → va_P D clR (mw_ x la) s.heap → va_K D clR (tyR cB cJ) s → (∀ x ∈ c.exceptionTable.toList, False) → meth.sig.returnType = ret → meth.locks = false → ∀ ls : Array Slot, lv_has ls maxL (lv_args 0 (.ref x :: As)) →
      W p l e rm s m (Value.ref x :: As).toArray below meth c s.heap [] 0 0 (vx_MQ below Qc XC (Value.ref x :: As).toArray s mc ms free) (F0 m 0 ls [])) : vx_Met l y (Cond.code y cc maxL ret :: BT) rm (PM A ad D cB cJ x la As) Qc XC mc ms free := by
  refine vx_ofW (cc := cc) (maxL := maxL) (ret := ret) hy rfl ?_
  intro p e s m args below meth c s₁ B hml ht hv
  obtain ⟨rfl, hF, hN, hP, hK⟩ := hv
  have hts := atoms_spec (ws := Cond.code y cc maxL ret :: BT) B.pre
  rw [lg_entry_eq]
  exact body p e s m below meth c ⟨B.exec, B.bytes, hml, findClass_of_methodNamed B.named, fun w h => hts w (List.mem_cons_of_mem _ h), hF⟩ hN hP hK ht B.returns B.notSynchronized _ (lv_entry (.ref x :: As) hn)
theorem pm_2 (hy : plainName y.cls = true) (hn : (lg_sl (.ref x :: As)).length ≤ maxL)
    (body : ∀ (p : Program) (e : Env) (s : State) (m : MethodId) (below : List Frame) (meth : Method) (c : Code), FX p s m (Value.ref x :: As).toArray c A ad cc maxL y.cls → va_P D clR (mw_ x la) s.heap → va_K D clR (tyR cB cJ) s → meth.sig.returnType = ret → meth.locks = false → ∀ ls : Array Slot, lv_has ls maxL (lv_args 0 (.ref x :: As)) →
      W p l e rm s m (Value.ref x :: As).toArray below meth c s.heap [] 0 0 (MQ below Qc (Value.ref x :: As).toArray s mc ms free) (F0 m 0 ls [])) : Met l y (Cond.code y cc maxL ret :: BT) rm (PM A ad D cB cJ x la As) Qc mc ms free := by
  refine Met.ofW (cc := cc) (maxL := maxL) (ret := ret) hy rfl ?_
  intro p e s m args below meth c s₁ B hml hv
  obtain ⟨rfl, hF, hN, hP, hK⟩ := hv
  have hts := atoms_spec (ws := Cond.code y cc maxL ret :: BT) B.pre
  rw [lg_entry_eq]
  exact body p e s m below meth c ⟨B.exec, B.bytes, hml, findClass_of_methodNamed B.named, fun w h => hts w (List.mem_cons_of_mem _ h), hF⟩ hP hK B.returns B.notSynchronized _ (lv_entry (.ref x :: As) hn)
end MM2
section MM3
variable {p : Program} {l : Launch} {e : Env} {R : Room} {s : State} {m : MethodId} {args : Array Value} {below : List Frame} {meth : Method} {c : Code} {cells slots : Nat} {H : Heap} {locs : List Loc} {Q : State → Prop}
variable {A : Nat → Prop} {ad : Nat → Nat} {cc : ByteArray} {nL index pc x : Nat} {own : String} {rest : List Value} {ls : Array Slot} {D : va_G} {cB cJ : ClassId} {la v : Int64}
theorem mg_ (hq : FX p s m args c A ad cc nL own) (hK : va_K D clR (tyR cB cJ) s) (hP : va_P D clR (mw_ x la) H) (hl : Cond.fieldLink own index nMn "latest" "J" ∈ BT) (hdg : decode cc pc = .ok (.getfield index, 3))
    (kk : W p l e R s m args below meth c H locs cells slots Q (F0 m (pc + 3) ls (.long la :: rest))) : W p l e R s m args below meth c H locs cells slots Q (F0 m pc ls (.ref x :: rest)) :=
  va_get (ci := 1) (C := nMn) (T := TM) (N := 1) hq.1 hq.2.1 hq.2.2.2.2.1 uwM hq.2.2.2.1 hK hP 0 rfl rfl 0 (by decide) (hq.2.2.2.2.1 _ hl) (fun _ h9 => h9) rfl hdg kk
theorem mp_ (hq : FX p s m args c A ad cc nL own) (hK : va_K D clR (tyR cB cJ) s) (hP : va_P D clR (mw_ x la) H) (hS : va_S (mA x) s.heap H locs) (hl : Cond.fieldLink own index nMn "latest" "J" ∈ BT) (hdg : decode cc pc = .ok (.putfield index, 3))
    (kk : ∀ (H : Heap) (locs : List Loc), va_P D clR (mw_ x v) H → va_S (mA x) s.heap H locs → W p l e R s m args below meth c H locs cells slots Q (F0 m (pc + 3) ls rest)) : W p l e R s m args below meth c H locs cells slots Q (F0 m pc ls (.long v :: .ref x :: rest)) :=
  va_put (ci := 1) (C := nMn) (T := TM) (N := 1) hq.1 hq.2.1 hq.2.2.2.2.1 uwM tM tM_ok nmM hq.2.2.2.1 hK hP (mw_D (A := mA x) rfl) hS 0 rfl rfl 0 (by decide) (hq.2.2.2.2.1 _ hl) (fun _ h9 => h9) rfl (ty := .long) rfl rfl rfl (Nat.le_of_ble_eq_true rfl) hdg (fun H1 locs1 a1 _ a3 => kk H1 locs1 a1 a3)
theorem me_ {w : Nat × Int64} (hq : FX p s m args c A ad cc nL own) (hr : meth.sig.returnType = some .long) (hk : meth.locks = false) (hw : w.1 = 0) (hP : va_P D clR (mw_ x w.2) H) (hS : va_S (mA x) s.heap H locs) (hdg : decode cc pc = .ok (.lreturn, 1)) :
    W p l e R s m args below meth c H locs 1 6 (vx_MQ below (QM D x w) (te_X w) args s 1 6 (mA x)) (F0 m pc ls [.long w.2]) :=
  vx_ret (W.lret hq.1 hq.2.1 hr (fun t ht _ => ⟨w.2, rfl, by rw [← hw], by rw [ht]; exact hP, hS.F ht⟩) hS.2.2 hdg)
end MM3
set_option maxHeartbeats 4000000 in
theorem c_Main_run (l : Launch) (hlt : l.stackTraces = false) (A : Nat → Prop) (ad : Nat → Nat) (D : va_G) (cB cJ : ClassId) (x : Nat) (la : Int64) (a0 : Int32) (a1 a2 : Int64) : vx_Met l y_Main_run (Cond.code y_Main_run b_Main_run 8 (some .long) :: BT) ({ frames := 9, cells := 1, slots := 6, locals := 187 }) (PM A ad D cB cJ x la [.int a0, .long a1, .long a2]) (QM D x (q_Operations_answer a0 a1 a2)) (te_X (q_Operations_answer a0 a1 a2)) 1 6 (mA x) := by
  refine pm_1 (by decide) (Nat.le_of_ble_eq_true rfl) ?_
  intro p e s m below meth c hq hN hP hK ht hr hk ls hl
  have hx := hq.1
  have hb := hq.2.1
  have hl : lv_has ls 8 [(0, .ref x), (1, .int a0), (2, .long a1), (4, .long a2)] := hl
  refine lv_iload_n hx hb d_Main_run_0 rfl (lv_at hl 1 rfl) ?_
  refine lv_lload_n hx hb d_Main_run_1 rfl (lv_at hl 2 rfl) ?_
  refine lv_lload hx hb d_Main_run_2 (lv_at hl 3 rfl) ?_
  refine ml_ (As := [.int a0, .long a1, .long a2]) (rest := []) hq hN ht hk (c_Operations_answer l hlt A ad a0 a1 a2) kB_Operations_answer wt_117 ⟨rfl, rfl, Nat.le_of_ble_eq_true rfl, Nat.le_of_ble_eq_true rfl⟩ rfl hl.1 rfl (Nat.le_of_ble_eq_true rfl) d_Main_run_4 ⟨Nat.le_of_ble_eq_true rfl, Nat.le_of_ble_eq_true rfl⟩ (fun hw => ?_)
  refine lv_lstore (lv' := [(6, .long (q_Operations_answer a0 a1 a2).2), (0, .ref x), (1, .int a0), (2, .long a1), (4, .long a2)]) hx hb d_Main_run_7 hl (by decide) rfl (fun ls hl => ?_)
  refine lv_aload_n hx hb d_Main_run_9 rfl (lv_at hl 1 rfl) ?_
  refine lv_lload hx hb d_Main_run_10 (lv_at hl 0 rfl) ?_
  refine mp_ hq hK hP va_S.rf wt_64 d_Main_run_12 (fun H locs hP hS => ?_)
  refine lv_lload hx hb d_Main_run_15 (lv_at hl 0 rfl) ?_
  exact me_ hq hr hk hw hP hS d_Main_run_17
set_option maxHeartbeats 4000000 in
theorem c_Main_next (l : Launch) (hlt : l.stackTraces = false) (A : Nat → Prop) (ad : Nat → Nat) (D : va_G) (cB cJ : ClassId) (x : Nat) (la : Int64) (a0 : Int32) (a1 : Int64) : vx_Met l y_Main_next (Cond.code y_Main_next b_Main_next 6 (some .long) :: BT) ({ frames := 9, cells := 1, slots := 6, locals := 187 }) (PM A ad D cB cJ x la [.int a0, .long a1]) (QM D x (q_Operations_answer a0 la a1)) (te_X (q_Operations_answer a0 la a1)) 1 6 (mA x) := by
  refine pm_1 (by decide) (Nat.le_of_ble_eq_true rfl) ?_
  intro p e s m below meth c hq hN hP hK ht hr hk ls hl
  have hx := hq.1
  have hb := hq.2.1
  have hl : lv_has ls 6 [(0, .ref x), (1, .int a0), (2, .long a1)] := hl
  refine lv_iload_n hx hb d_Main_next_0 rfl (lv_at hl 1 rfl) ?_
  refine lv_aload_n hx hb d_Main_next_1 rfl (lv_at hl 0 rfl) ?_
  refine mg_ hq hK hP wt_64 d_Main_next_2 ?_
  refine lv_lload_n hx hb d_Main_next_5 rfl (lv_at hl 2 rfl) ?_
  refine ml_ (As := [.int a0, .long la, .long a1]) (rest := []) hq hN ht hk (c_Operations_answer l hlt A ad a0 la a1) kB_Operations_answer wt_117 ⟨rfl, rfl, Nat.le_of_ble_eq_true rfl, Nat.le_of_ble_eq_true rfl⟩ rfl hl.1 rfl (Nat.le_of_ble_eq_true rfl) d_Main_next_6 ⟨Nat.le_of_ble_eq_true rfl, Nat.le_of_ble_eq_true rfl⟩ (fun hw => ?_)
  refine lv_lstore (lv' := [(4, .long (q_Operations_answer a0 la a1).2), (0, .ref x), (1, .int a0), (2, .long a1)]) hx hb d_Main_next_9 hl (by decide) rfl (fun ls hl => ?_)
  refine lv_aload_n hx hb d_Main_next_11 rfl (lv_at hl 1 rfl) ?_
  refine lv_lload hx hb d_Main_next_12 (lv_at hl 0 rfl) ?_
  refine mp_ hq hK hP va_S.rf wt_64 d_Main_next_14 (fun H locs hP hS => ?_)
  refine lv_lload hx hb d_Main_next_17 (lv_at hl 0 rfl) ?_
  exact me_ hq hr hk hw hP hS d_Main_next_19
set_option maxHeartbeats 4000000 in
theorem c_Main_into (l : Launch) (hlt : l.stackTraces = false) (A : Nat → Prop) (ad : Nat → Nat) (D : va_G) (cB cJ : ClassId) (x : Nat) (la : Int64) (a0 : Int32) (a1 : Int64) : vx_Met l y_Main_into (Cond.code y_Main_into b_Main_into 6 (some .long) :: BT) ({ frames := 9, cells := 1, slots := 6, locals := 187 }) (PM A ad D cB cJ x la [.int a0, .long a1]) (QM D x (q_Operations_answer a0 a1 la)) (te_X (q_Operations_answer a0 a1 la)) 1 6 (mA x) := by
  refine pm_1 (by decide) (Nat.le_of_ble_eq_true rfl) ?_
  intro p e s m below meth c hq hN hP hK ht hr hk ls hl
  have hx := hq.1
  have hb := hq.2.1
  have hl : lv_has ls 6 [(0, .ref x), (1, .int a0), (2, .long a1)] := hl
  refine lv_iload_n hx hb d_Main_into_0 rfl (lv_at hl 1 rfl) ?_
  refine lv_lload_n hx hb d_Main_into_1 rfl (lv_at hl 2 rfl) ?_
  refine lv_aload_n hx hb d_Main_into_2 rfl (lv_at hl 0 rfl) ?_
  refine mg_ hq hK hP wt_64 d_Main_into_3 ?_
  refine ml_ (As := [.int a0, .long a1, .long la]) (rest := []) hq hN ht hk (c_Operations_answer l hlt A ad a0 a1 la) kB_Operations_answer wt_117 ⟨rfl, rfl, Nat.le_of_ble_eq_true rfl, Nat.le_of_ble_eq_true rfl⟩ rfl hl.1 rfl (Nat.le_of_ble_eq_true rfl) d_Main_into_6 ⟨Nat.le_of_ble_eq_true rfl, Nat.le_of_ble_eq_true rfl⟩ (fun hw => ?_)
  refine lv_lstore (lv' := [(4, .long (q_Operations_answer a0 a1 la).2), (0, .ref x), (1, .int a0), (2, .long a1)]) hx hb d_Main_into_9 hl (by decide) rfl (fun ls hl => ?_)
  refine lv_aload_n hx hb d_Main_into_11 rfl (lv_at hl 1 rfl) ?_
  refine lv_lload hx hb d_Main_into_12 (lv_at hl 0 rfl) ?_
  refine mp_ hq hK hP va_S.rf wt_64 d_Main_into_14 (fun H locs hP hS => ?_)
  refine lv_lload hx hb d_Main_into_17 (lv_at hl 0 rfl) ?_
  exact me_ hq hr hk hw hP hS d_Main_into_19
/-- latest, kind: nothing changes -/
def QMl (v : Int64) : Array Value → State → Outcome → State → Prop := fun _ st oc t => oc = .returned (some (.long v)) ∧ t.heap = st.heap
def QMi (v : Int32) : Array Value → State → Outcome → State → Prop := fun _ st oc t => oc = .returned (some (.int v)) ∧ t.heap = st.heap
theorem c_Main_latest (l : Launch) (A : Nat → Prop) (ad : Nat → Nat) (D : va_G) (cB cJ : ClassId) (x : Nat) (la : Int64) : Met l y_Main_latest (Cond.code y_Main_latest b_Main_latest 1 (some .long) :: BT) ({ frames := 0, cells := 0, slots := 0, locals := 0 }) (PM A ad D cB cJ x la []) (QMl la) 0 0 (fun _ => False) := by
  refine pm_2 (by decide) (Nat.le_of_ble_eq_true rfl) ?_
  intro p e s m below meth c hq hP hK hr hk ls hl
  have hx := hq.1
  have hb := hq.2.1
  have hl : lv_has ls 1 [(0, .ref x)] := hl
  refine lv_aload_n hx hb d_Main_latest_0 rfl (lv_at hl 0 rfl) ?_
  refine mg_ hq hK hP wt_64 d_Main_latest_1 ?_
  exact W.lret hx hb hr (fun t ht _ => ⟨rfl, ht⟩) (fun q h => by cases h) d_Main_latest_4
