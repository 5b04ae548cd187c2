/-! THE LAW'S OWN CALLS: run, next, into, and what they catch -/
abbrev nLw : String := "BitArithmeticLaw"
def CW (U : State) : Prop := va_Nc (exN 2) (exN 1) U ∧ va_Nc (exN 3) (exN 1) U ∧ va_Nc (exN 3) (exN 2) U ∧ va_Nc (exN 4) (exN 1) U ∧ va_Nc (exN 4) (exN 2) U ∧ va_Nc (exN 4) (exN 3) U
theorem CW.moved {u U : State} (hvm : u.vm.Alike U.vm) (h : CW u) : CW U := by
  obtain ⟨h1, h2, h3, h4, h5, h6⟩ := h
  exact ⟨h1.moved hvm, h2.moved hvm, h3.moved hvm, h4.moved hvm, h5.moved hvm, h6.moved hvm⟩
abbrev l2_ (x w : Nat) (cJ : ClassId) (la : Int64) (g : Nat → Int64) : va_W := [(x, .inr (1, [.long la])), (w, .inl (cJ, 1, .inr (.inl g)))]
def lA (x w : Nat) : Nat → Prop := fun q => q = x ∨ q = w
theorem l2_D {A : Nat → Prop} {x w : Nat} {cJ : ClassId} {la : Int64} {g : Nat → Int64} (hne : x ≠ w) (hx : A x) (hw : A w) : va_D A (l2_ x w cJ la g) := by
  refine ⟨fun i j p q hi hj e => ?_, fun k q hk => ?_⟩
  · match i, j, hi, hj with
    | 0, 0, _, _ => rfl
    | 1, 1, _, _ => rfl
    | 0, 1, hi, hj => cases hi; cases hj; exact absurd e hne
    | 1, 0, hi, hj => cases hi; cases hj; exact absurd e.symm hne
    | i + 2, _, hi, _ => simp at hi
    | _, j + 2, _, hj => simp at hj
  · match k, hk with
    | 0, hk => cases hk; exact hx
    | 1, hk => cases hk; exact hw
    | k + 2, hk => simp at hk
def PL (A : Nat → Prop) (ad : Nat → Nat) (D : va_G) (cB cJ : ClassId) (x w : Nat) (la : Int64) (g : Nat → Int64) (As : List Value) : Array Value → State → Prop :=
  va_Pc As (fun U => FW A ad U U.heap ∧ NW ad U ∧ CW U ∧ va_P D clR (l2_ x w cJ la g) U.heap ∧ va_K D clR (tyR cB cJ) U)
theorem pl_blind {A : Nat → Prop} {ad : Nat → Nat} {D : va_G} {cB cJ : ClassId} {x w : Nat} {la : Int64} {g : Nat → Int64} {As : List Value} : FrameBlind (PL A ad D cB cJ x w la g As) :=
  fun a U g mk q => ⟨q.1, FW.moved (u := U) (U := U.calling g mk a) (Vm.Alike.refl U.vm) q.2.1, NW.same rfl q.2.2.1, CW.moved (u := U) (U := U.calling g mk a) (Vm.Alike.refl U.vm) q.2.2.2.1, q.2.2.2.2.1, va_K.moved (u := U) (U := U.calling g mk a) (Vm.Alike.refl U.vm) q.2.2.2.2.2⟩
def QL (D : va_G) (cJ : ClassId) (x w : Nat) (la : Int64) (g : Nat → Int64) (W9 : Nat × Int64) : Array Value → State → Outcome → State → Prop := fun _ st oc t => oc = .returned (some (.int (nI W9.1))) ∧ va_P D clR (l2_ x w cJ (if W9.1 = 0 then W9.2 else la) (if W9.1 = 0 then vp_updL g 0 W9.2 else g)) t.heap ∧ va_F (lA x w) st t
def MB (y : MethodName) (bytes : ByteArray) (maxL : Nat) (ret : Option FieldType) (n : Nat) : Prop :=
  Cond.code y bytes maxL ret ∈ BT ∧ Cond.instanceMethod y ∈ BT ∧ Cond.selects nMn y y ∈ BT ∧ Cond.initialized y.cls ∈ BT ∧ (y.cls ≠ "java/lang/invoke/MethodHandle" ∧ y.cls ≠ "java/lang/invoke/VarHandle" ∧ (parseMethodDescriptor y.desc).map (fun d => d.parameters.length) = some n)
section LC1
variable {p : Program} {l : Launch} {e : Env} {R : Room} {s : State} {m : MethodId} {args : Array Value} {below : List Frame} {meth : Method} {c : Code} {Q : State → Prop}
variable {A : Nat → Prop} {ad : Nat → Nat} {cc bytes : ByteArray} {nL maxL n index pc x w : Nat} {y : MethodName} {ret : Option FieldType} {rm : Room} {As rest st0 : List Value} {ls : Array Slot} {D : va_G} {cB cJ : ClassId} {la : Int64} {g : Nat → Int64}
theorem lq_ {W9 : Nat × Int64} (en h1 h2 h3 h4 : Nat) (hq : FX p s m args c A ad cc nL nLw) (hN : NW ad s) (hC : CW s) (hK : va_K D clR (tyR cB cJ) s) (hne : x ≠ w) (hP : va_P D clR (l2_ x w cJ la g) s.heap) (htab : c.exceptionTable.toList = tableOf [(0, en, h1, 13), (0, en, h2, 15), (0, en, h3, 17), (0, en, h4, 19)]) (hpe : pc < en) (h49 : W9.1 ≤ 4)
    (hM : vx_Met l y (Cond.code y bytes maxL ret :: BT) rm (PM A ad D cB cJ x la As) (QM D x W9) (te_X W9) 1 6 (mA x)) (K : MB y bytes maxL ret n) (hl : Cond.methodLink nLw index y ∈ BT)
    (hrm : rm.cells = 1 ∧ rm.slots = 6 ∧ rm.frames + 1 ≤ R.frames ∧ 8 + (maxL + 11) + rm.locals ≤ R.locals) (hn : As.length = n) (hsize : ls.size = nL) (hstack : st0 = As.reverse ++ .ref x :: rest) (hW : (rest.map fun v => v.category).sum ≤ 8)
    (hdg : decode cc pc = .ok (.invokevirtual index, 3)) (hf : 0 + 1 ≤ R.cells ∧ 0 + 6 ≤ R.slots)
    (kk : W9.1 = 0 → ∀ (H : Heap) (locs : List Loc), va_P D clR (l2_ x w cJ W9.2 g) H → va_S (lA x w) s.heap H locs → W p l e R s m args below meth c H locs 1 6 Q (F0 m (pc + 3) ls (.long W9.2 :: rest)))
    (kx : W9.1 ≠ 0 → ∀ (H : Heap) (locs : List Loc) (q : Nat), va_P D clR (l2_ x w cJ la g) H → va_S (lA x w) s.heap H locs → W p l e R s m args below meth c H locs 1 6 Q (F0 m ([0, h1, h2, h3, h4].getD W9.1 0) ls [.ref q])) :
    W p l e R s m args below meth c s.heap [] 0 0 Q (F0 m pc ls st0) := by
  obtain ⟨k1, k2, k2', k3, k4⟩ := K
  obtain ⟨r1, r2, r3⟩ := hrm
  have hts := hq.2.2.2.2.1
  have cb := bt_cb (R := R) (rm := rm) hq k1 k3 k4 hl r3
  rw [r1, r2] at cb
  have hPx : va_P D clR (mw_ x la) s.heap := hP.sub [0] rfl
  have hpre : PreV s s.heap nMn x (PM A ad D cB cJ x la As) As := ⟨pm_blind, va_recv hK hP (ci := 1) (q0 := 0) rfl rfl, fun U hU hW => ⟨rfl, show FW A ad U U.heap from by rw [hU]; exact FW.moved hW.alike hq.2.2.2.2.2, NW.warm hW hN, by rw [hU]; exact hPx, va_K.moved hW.alike hK⟩⟩
  have hr := vx_runV (p := p) (e := e) (below := below) (meth := meth) (locs := []) (cells := 0) (slots := 0) (rest := rest) (g := F0 m pc ls st0) (fx_cf hq) hM ⟨cb, hts _ k2, hts _ k2'⟩ hpre rfl hn hsize hstack (lv_room hW) hdg hf
  intro T hT X
  rcases hr T hT X with ⟨v, st₀, t, T', L, h0, X', hL, e1, e2, ⟨r, hv, hp, hP1, hF1⟩, st⟩ | ⟨q, st₀, t, T', L, E, ce, h0, X', hL, e1, e2, ⟨hp, hE, hz, hkp⟩, hce, hcv, hcl, st⟩
  · cases hv
    have hw2 : W9.2 = r := by rw [hp]
    have hPw : va_P D clR (l2_ x w cJ W9.2 g) T'.heap := by
      intro k q hk
      match k, hk with
      | 0, hk => cases hk; rw [e1, hw2]; exact hP1 0 _ rfl
      | 1, hk =>
        cases hk
        refine (hP 1 _ rfl).kept ?_
        rw [e1]
        have hlt : w < s.heap.size := (hP 1 _ rfl).lt
        rw [hF1.2 w (by rw [h0]; exact hlt) (fun z => hne z.symm), h0]
      | k + 2, hk => simp at hk
    have hSw : va_S (lA x w) s.heap T'.heap ([] ++ L) := ⟨by rw [e1, ← h0]; exact hF1.1, fun q hq9 hn9 => by rw [e1, hF1.2 q (by rw [h0]; exact hq9) (fun z => hn9 (Or.inl z)), h0], fun q h => Or.inl (hL q h)⟩
    obtain ⟨t2, a1, b1⟩ := kk (by rw [hp]) T'.heap _ hPw hSw T' rfl X'
    rw [hw2] at a1
    exact ⟨t2, st t2 a1, b1⟩
  · have hPw : va_P D clR (l2_ x w cJ la g) T'.heap := hP.kept (fun k q hk => by rw [e1, hkp q.1 (by rw [h0]; exact (hP k q hk).lt), h0])
    have hSw : va_S (lA x w) s.heap T'.heap ([] ++ L) := ⟨by rw [e1, ← h0]; exact hz, fun q hq9 hn9 => by rw [e1, hkp q (by rw [h0]; exact hq9), h0], fun q h => Or.inl (hL q h)⟩
    have kc := kx hp T'.heap _ q hPw hSw
    have hce' : T'.heap[q]? = some ce := by rw [e1]; exact hce
    have cv : ∀ (h t : Nat), covers ⟨0, en, h, t⟩ pc = true := fun h t => by simp [covers, hpe]
    obtain ⟨c21, c31, c32, c41, c42, c43⟩ := hC
    obtain ⟨-, -, -, n1, n2, n3, n4, -⟩ := hN
    have go : vx_W p l e R s m args below meth c T'.heap ([] ++ L) (0 + 1) (0 + 6) Q (F0 m pc ls rest) q := by
      have hcases : W9.1 = 1 ∨ W9.1 = 2 ∨ W9.1 = 3 ∨ W9.1 = 4 := by omega
      rcases hcases with hk | hk | hk | hk
      · rw [hk] at kc hE
        subst hE
        exact vx_catch (name := exN 1) hq.2.2.2.1 [] ⟨0, en, h1, 13⟩ [⟨0, en, h2, 15⟩, ⟨0, en, h3, 17⟩, ⟨0, en, h4, 19⟩] htab (fun z hz => by cases hz) (cv _ _) (fun z => nomatch z) (hts _ wt_109) (va_Nw.use rfl n1) hce' hcv hcl kc
      · rw [hk] at kc hE
        subst hE
        exact vx_catch (name := exN 2) hq.2.2.2.1 [⟨0, en, h1, 13⟩] ⟨0, en, h2, 15⟩ [⟨0, en, h3, 17⟩, ⟨0, en, h4, 19⟩] htab (List.forall_mem_cons.mpr ⟨Or.inr ⟨(fun z => nomatch z), exN 1, hts _ wt_109, c21⟩, fun z hz => by cases hz⟩) (cv _ _) (fun z => nomatch z) (hts _ wt_110) (va_Nw.use rfl n2) hce' hcv hcl kc
      · rw [hk] at kc hE
        subst hE
        exact vx_catch (name := exN 3) hq.2.2.2.1 [⟨0, en, h1, 13⟩, ⟨0, en, h2, 15⟩] ⟨0, en, h3, 17⟩ [⟨0, en, h4, 19⟩] htab (List.forall_mem_cons.mpr ⟨Or.inr ⟨(fun z => nomatch z), exN 1, hts _ wt_109, c31⟩, List.forall_mem_cons.mpr ⟨Or.inr ⟨(fun z => nomatch z), exN 2, hts _ wt_110, c32⟩, fun z hz => by cases hz⟩⟩) (cv _ _) (fun z => nomatch z) (hts _ wt_111) (va_Nw.use rfl n3) hce' hcv hcl kc
      · rw [hk] at kc hE
        subst hE
        exact vx_catch (name := exN 4) hq.2.2.2.1 [⟨0, en, h1, 13⟩, ⟨0, en, h2, 15⟩, ⟨0, en, h3, 17⟩] ⟨0, en, h4, 19⟩ [] htab (List.forall_mem_cons.mpr ⟨Or.inr ⟨(fun z => nomatch z), exN 1, hts _ wt_109, c41⟩, List.forall_mem_cons.mpr ⟨Or.inr ⟨(fun z => nomatch z), exN 2, hts _ wt_110, c42⟩, List.forall_mem_cons.mpr ⟨Or.inr ⟨(fun z => nomatch z), exN 3, hts _ wt_111, c43⟩, fun z hz => by cases hz⟩⟩⟩) (cv _ _) (fun z => nomatch z) (hts _ wt_112) (va_Nw.use rfl n4) hce' hcv hcl kc
    obtain ⟨t2, a1, b1⟩ := go T' rfl X'
    exact ⟨t2, st.trans a1, b1⟩
end LC1
section LC2
variable {l : Launch} {y : MethodName} {cc : ByteArray} {maxL : Nat} {ret : Option FieldType} {hh : List (Nat × Nat × Nat × Nat)} {rm : Room} {Qc : Array Value → State → Outcome → State → Prop} {XC : String → State → State → Prop} {mc ms : Nat} {free : Addr → Prop} {As : List Value} {A : Nat → Prop} {ad : Nat → Nat} {D : va_G} {cB cJ : ClassId} {x w : Nat} {la : Int64} {g : Nat → Int64}
theorem pl_ (hy : plainName y.cls = true) (hn : (lg_sl As).length ≤ maxL)
    (body : ∀ (p : Program) (e : Env) (s : State) (m : MethodId) (below : List Frame) (meth : Method) (c : Code), FX p s m As.toArray c A ad cc maxL y.cls → NW ad s → CW s → va_P D clR (l2_ x w cJ la g) s.heap → va_K D clR (tyR cB cJ) s → c.exceptionTable.toList = tableOf hh → meth.sig.returnType = ret → meth.locks = false → ∀ ls : Array Slot, lv_has ls maxL (lv_args 0 As) →
      W p l e rm s m As.toArray below meth c s.heap [] 0 0 (vx_MQ below Qc XC As.toArray s mc ms free) (F0 m 0 ls [])) : vx_Met l y (Cond.codeWith y cc maxL ret hh :: BT) rm (PL A ad D cB cJ x w la g As) Qc XC mc ms free := by
  refine vx_ofWH (cc := cc) (maxL := maxL) (ret := ret) (hh := hh) hy rfl ?_
  intro p e s m args below meth c s₁ B hml hv
  obtain ⟨rfl, hF, hN, hC, hP, hK⟩ := hv
  have hts := atoms_spec (ws := Cond.codeWith y cc maxL ret hh :: BT) B.pre
  rw [lg_entry_eq]
  exact body p e s m below meth c ⟨B.exec, B.bytes, hml, findClass_of_methodNamed B.named, fun w h => hts w (List.mem_cons_of_mem _ h), hF⟩ hN hC hP hK (vx_table (x := y) B (hts _ List.mem_cons_self)) B.returns B.notSynchronized _ (lv_entry As hn)
end LC2
theorem kB_Main_run : MB y_Main_run b_Main_run 8 (some .long) 3 := ⟨wt_116, wt_114, wt_115, wt_35, by decide +kernel⟩
theorem kB_Main_next : MB y_Main_next b_Main_next 6 (some .long) 2 := ⟨wt_470, wt_468, wt_469, wt_35, by decide +kernel⟩
theorem kB_Main_into : MB y_Main_into b_Main_into 6 (some .long) 2 := ⟨wt_477, wt_475, wt_476, wt_35, by decide +kernel⟩

set_option maxHeartbeats 4000000 in
theorem c_MainLaw_run (l : Launch) (hlt : l.stackTraces = false) (A : Nat → Prop) (ad : Nat → Nat) (D : va_G) (cB cJ : ClassId) (x w : Nat) (hne : x ≠ w) (la : Int64) (g : Nat → Int64) (a0 : Int32) (a1 : Int64) (a2 : Int64) (h4 : (q_Operations_answer a0 a1 a2).1 ≤ 4) : vx_Met l y_MainLaw_run (Cond.codeWith y_MainLaw_run b_MainLaw_run 8 (some .int) [(0, 12, 15, 13), (0, 12, 19, 15), (0, 12, 23, 17), (0, 12, 27, 19)] :: BT) ({ frames := 10, cells := 1, slots := 6, locals := 214 }) (PL A ad D cB cJ x w la g [.ref x, .int a0, .long a1, .long a2, .ref w]) (QL D cJ x w la g (q_Operations_answer a0 a1 a2)) (fun _ _ _ => False) 1 6 (lA x w) := by
  refine pl_ (by decide) (Nat.le_of_ble_eq_true rfl) ?_
  intro p e s m below meth c hq hN hC hP hK ht hr hk ls hl
  have hx := hq.1
  have hb := hq.2.1
  have hl : lv_has ls 8 [(0, .ref x), (1, .int a0), (2, .long a1), (4, .long a2), (6, .ref w)] := hl
  refine lv_aload hx hb d_MainLaw_run_0 (lv_at hl 4 rfl) ?_
  refine lv_iconst (v := (0 : Int32)) hx hb d_MainLaw_run_2 (by decide) ?_
  refine lv_aload_n hx hb d_MainLaw_run_3 rfl (lv_at hl 0 rfl) ?_
  refine lv_iload_n hx hb d_MainLaw_run_4 rfl (lv_at hl 1 rfl) ?_
  refine lv_lload_n hx hb d_MainLaw_run_5 rfl (lv_at hl 2 rfl) ?_
  refine lv_lload hx hb d_MainLaw_run_6 (lv_at hl 3 rfl) ?_
  refine lq_ (As := [.int a0, .long a1, .long a2]) (rest := [.int (0 : Int32), .ref w]) 12 15 19 23 27 hq hN hC hK hne hP ht (by decide) h4 (c_Main_run l hlt A ad D cB cJ x la a0 a1 a2) kB_Main_run wt_113 ⟨rfl, rfl, Nat.le_of_ble_eq_true rfl, Nat.le_of_ble_eq_true rfl⟩ rfl hl.1 rfl (Nat.le_of_ble_eq_true rfl) d_MainLaw_run_8 ⟨Nat.le_of_ble_eq_true rfl, Nat.le_of_ble_eq_true rfl⟩ (fun hw H locs hP hS => ?_) (fun hw H locs q hP hS => ?_)
  · refine va_last hx hb hK hP (l2_D (A := lA x w) hne (Or.inl rfl) (Or.inr rfl)) hS 1 1 rfl rfl (vp_in_nI (n := 0) (N := 1) (by decide) (by decide)) d_MainLaw_run_11 (fun H locs hP _ hS => ?_)
    refine lv_goto (tgt := 31) hx hb d_MainLaw_run_12 (by decide) ?_
    refine lv_iconst (v := (0 : Int32)) hx hb d_MainLaw_run_31 (by decide) ?_
    exact vx_ret (W.iret hx hb hr (fun t ht _ => ⟨by rw [hw]; rfl, by rw [ht, if_pos hw, if_pos hw]; exact hP, hS.F ht⟩) hS.2.2 d_MainLaw_run_32)
  · have hc4 : (q_Operations_answer a0 a1 a2).1 = 1 ∨ (q_Operations_answer a0 a1 a2).1 = 2 ∨ (q_Operations_answer a0 a1 a2).1 = 3 ∨ (q_Operations_answer a0 a1 a2).1 = 4 := by omega
    rcases hc4 with h | h | h | h
    · rw [h]
      refine lv_astore (lv' := (7, .ref q) :: [(0, .ref x), (1, .int a0), (2, .long a1), (4, .long a2), (6, .ref w)]) hx hb d_MainLaw_run_15 hl (by decide) rfl (fun ls hl => ?_)
      refine lv_iconst (v := (1 : Int32)) hx hb d_MainLaw_run_17 (by decide) ?_
      exact vx_ret (W.iret hx hb hr (fun t ht _ => ⟨by rw [h]; rfl, by rw [ht, if_neg hw, if_neg hw]; exact hP, hS.F ht⟩) hS.2.2 d_MainLaw_run_18)
    · rw [h]
      refine lv_astore (lv' := (7, .ref q) :: [(0, .ref x), (1, .int a0), (2, .long a1), (4, .long a2), (6, .ref w)]) hx hb d_MainLaw_run_19 hl (by decide) rfl (fun ls hl => ?_)
      refine lv_iconst (v := (2 : Int32)) hx hb d_MainLaw_run_21 (by decide) ?_
      exact vx_ret (W.iret hx hb hr (fun t ht _ => ⟨by rw [h]; rfl, by rw [ht, if_neg hw, if_neg hw]; exact hP, hS.F ht⟩) hS.2.2 d_MainLaw_run_22)
    · rw [h]
      refine lv_astore (lv' := (7, .ref q) :: [(0, .ref x), (1, .int a0), (2, .long a1), (4, .long a2), (6, .ref w)]) hx hb d_MainLaw_run_23 hl (by decide) rfl (fun ls hl => ?_)
      refine lv_iconst (v := (3 : Int32)) hx hb d_MainLaw_run_25 (by decide) ?_
      exact vx_ret (W.iret hx hb hr (fun t ht _ => ⟨by rw [h]; rfl, by rw [ht, if_neg hw, if_neg hw]; exact hP, hS.F ht⟩) hS.2.2 d_MainLaw_run_26)
    · rw [h]
      refine lv_astore (lv' := (7, .ref q) :: [(0, .ref x), (1, .int a0), (2, .long a1), (4, .long a2), (6, .ref w)]) hx hb d_MainLaw_run_27 hl (by decide) rfl (fun ls hl => ?_)
      refine lv_iconst (v := (4 : Int32)) hx hb d_MainLaw_run_29 (by decide) ?_
      exact vx_ret (W.iret hx hb hr (fun t ht _ => ⟨by rw [h]; rfl, by rw [ht, if_neg hw, if_neg hw]; exact hP, hS.F ht⟩) hS.2.2 d_MainLaw_run_30)

set_option maxHeartbeats 4000000 in
theorem c_MainLaw_next (l : Launch) (hlt : l.stackTraces = false) (A : Nat → Prop) (ad : Nat → Nat) (D : va_G) (cB cJ : ClassId) (x w : Nat) (hne : x ≠ w) (la : Int64) (g : Nat → Int64) (a0 : Int32) (a1 : Int64) (h4 : (q_Operations_answer a0 la a1).1 ≤ 4) : vx_Met l y_MainLaw_next (Cond.codeWith y_MainLaw_next b_MainLaw_next 6 (some .int) [(0, 10, 13, 13), (0, 10, 17, 15), (0, 10, 21, 17), (0, 10, 25, 19)] :: BT) ({ frames := 10, cells := 1, slots := 6, locals := 214 }) (PL A ad D cB cJ x w la g [.ref x, .int a0, .long a1, .ref w]) (QL D cJ x w la g (q_Operations_answer a0 la a1)) (fun _ _ _ => False) 1 6 (lA x w) := by
  refine pl_ (by decide) (Nat.le_of_ble_eq_true rfl) ?_
  intro p e s m below meth c hq hN hC hP hK ht hr hk ls hl
  have hx := hq.1
  have hb := hq.2.1
  have hl : lv_has ls 6 [(0, .ref x), (1, .int a0), (2, .long a1), (4, .ref w)] := hl
  refine lv_aload hx hb d_MainLaw_next_0 (lv_at hl 3 rfl) ?_
  refine lv_iconst (v := (0 : Int32)) hx hb d_MainLaw_next_2 (by decide) ?_
  refine lv_aload_n hx hb d_MainLaw_next_3 rfl (lv_at hl 0 rfl) ?_
  refine lv_iload_n hx hb d_MainLaw_next_4 rfl (lv_at hl 1 rfl) ?_
  refine lv_lload_n hx hb d_MainLaw_next_5 rfl (lv_at hl 2 rfl) ?_
  refine lq_ (As := [.int a0, .long a1]) (rest := [.int (0 : Int32), .ref w]) 10 13 17 21 25 hq hN hC hK hne hP ht (by decide) h4 (c_Main_next l hlt A ad D cB cJ x la a0 a1) kB_Main_next wt_467 ⟨rfl, rfl, Nat.le_of_ble_eq_true rfl, Nat.le_of_ble_eq_true rfl⟩ rfl hl.1 rfl (Nat.le_of_ble_eq_true rfl) d_MainLaw_next_6 ⟨Nat.le_of_ble_eq_true rfl, Nat.le_of_ble_eq_true rfl⟩ (fun hw H locs hP hS => ?_) (fun hw H locs q hP hS => ?_)
  · refine va_last hx hb hK hP (l2_D (A := lA x w) hne (Or.inl rfl) (Or.inr rfl)) hS 1 1 rfl rfl (vp_in_nI (n := 0) (N := 1) (by decide) (by decide)) d_MainLaw_next_9 (fun H locs hP _ hS => ?_)
    refine lv_goto (tgt := 29) hx hb d_MainLaw_next_10 (by decide) ?_
    refine lv_iconst (v := (0 : Int32)) hx hb d_MainLaw_next_29 (by decide) ?_
    exact vx_ret (W.iret hx hb hr (fun t ht _ => ⟨by rw [hw]; rfl, by rw [ht, if_pos hw, if_pos hw]; exact hP, hS.F ht⟩) hS.2.2 d_MainLaw_next_30)
  · have hc4 : (q_Operations_answer a0 la a1).1 = 1 ∨ (q_Operations_answer a0 la a1).1 = 2 ∨ (q_Operations_answer a0 la a1).1 = 3 ∨ (q_Operations_answer a0 la a1).1 = 4 := by omega
    rcases hc4 with h | h | h | h
    · rw [h]
      refine lv_astore (lv' := (5, .ref q) :: [(0, .ref x), (1, .int a0), (2, .long a1), (4, .ref w)]) hx hb d_MainLaw_next_13 hl (by decide) rfl (fun ls hl => ?_)
      refine lv_iconst (v := (1 : Int32)) hx hb d_MainLaw_next_15 (by decide) ?_
      exact vx_ret (W.iret hx hb hr (fun t ht _ => ⟨by rw [h]; rfl, by rw [ht, if_neg hw, if_neg hw]; exact hP, hS.F ht⟩) hS.2.2 d_MainLaw_next_16)
    · rw [h]
      refine lv_astore (lv' := (5, .ref q) :: [(0, .ref x), (1, .int a0), (2, .long a1), (4, .ref w)]) hx hb d_MainLaw_next_17 hl (by decide) rfl (fun ls hl => ?_)
      refine lv_iconst (v := (2 : Int32)) hx hb d_MainLaw_next_19 (by decide) ?_
      exact vx_ret (W.iret hx hb hr (fun t ht _ => ⟨by rw [h]; rfl, by rw [ht, if_neg hw, if_neg hw]; exact hP, hS.F ht⟩) hS.2.2 d_MainLaw_next_20)
    · rw [h]
      refine lv_astore (lv' := (5, .ref q) :: [(0, .ref x), (1, .int a0), (2, .long a1), (4, .ref w)]) hx hb d_MainLaw_next_21 hl (by decide) rfl (fun ls hl => ?_)
      refine lv_iconst (v := (3 : Int32)) hx hb d_MainLaw_next_23 (by decide) ?_
      exact vx_ret (W.iret hx hb hr (fun t ht _ => ⟨by rw [h]; rfl, by rw [ht, if_neg hw, if_neg hw]; exact hP, hS.F ht⟩) hS.2.2 d_MainLaw_next_24)
    · rw [h]
      refine lv_astore (lv' := (5, .ref q) :: [(0, .ref x), (1, .int a0), (2, .long a1), (4, .ref w)]) hx hb d_MainLaw_next_25 hl (by decide) rfl (fun ls hl => ?_)
      refine lv_iconst (v := (4 : Int32)) hx hb d_MainLaw_next_27 (by decide) ?_
      exact vx_ret (W.iret hx hb hr (fun t ht _ => ⟨by rw [h]; rfl, by rw [ht, if_neg hw, if_neg hw]; exact hP, hS.F ht⟩) hS.2.2 d_MainLaw_next_28)

set_option maxHeartbeats 4000000 in
theorem c_MainLaw_into (l : Launch) (hlt : l.stackTraces = false) (A : Nat → Prop) (ad : Nat → Nat) (D : va_G) (cB cJ : ClassId) (x w : Nat) (hne : x ≠ w) (la : Int64) (g : Nat → Int64) (a0 : Int32) (a1 : Int64) (h4 : (q_Operations_answer a0 a1 la).1 ≤ 4) : vx_Met l y_MainLaw_into (Cond.codeWith y_MainLaw_into b_MainLaw_into 6 (some .int) [(0, 10, 13, 13), (0, 10, 17, 15), (0, 10, 21, 17), (0, 10, 25, 19)] :: BT) ({ frames := 10, cells := 1, slots := 6, locals := 214 }) (PL A ad D cB cJ x w la g [.ref x, .int a0, .long a1, .ref w]) (QL D cJ x w la g (q_Operations_answer a0 a1 la)) (fun _ _ _ => False) 1 6 (lA x w) := by
  refine pl_ (by decide) (Nat.le_of_ble_eq_true rfl) ?_
  intro p e s m below meth c hq hN hC hP hK ht hr hk ls hl
  have hx := hq.1
  have hb := hq.2.1
  have hl : lv_has ls 6 [(0, .ref x), (1, .int a0), (2, .long a1), (4, .ref w)] := hl
  refine lv_aload hx hb d_MainLaw_into_0 (lv_at hl 3 rfl) ?_
  refine lv_iconst (v := (0 : Int32)) hx hb d_MainLaw_into_2 (by decide) ?_
  refine lv_aload_n hx hb d_MainLaw_into_3 rfl (lv_at hl 0 rfl) ?_
  refine lv_iload_n hx hb d_MainLaw_into_4 rfl (lv_at hl 1 rfl) ?_
  refine lv_lload_n hx hb d_MainLaw_into_5 rfl (lv_at hl 2 rfl) ?_
  refine lq_ (As := [.int a0, .long a1]) (rest := [.int (0 : Int32), .ref w]) 10 13 17 21 25 hq hN hC hK hne hP ht (by decide) h4 (c_Main_into l hlt A ad D cB cJ x la a0 a1) kB_Main_into wt_474 ⟨rfl, rfl, Nat.le_of_ble_eq_true rfl, Nat.le_of_ble_eq_true rfl⟩ rfl hl.1 rfl (Nat.le_of_ble_eq_true rfl) d_MainLaw_into_6 ⟨Nat.le_of_ble_eq_true rfl, Nat.le_of_ble_eq_true rfl⟩ (fun hw H locs hP hS => ?_) (fun hw H locs q hP hS => ?_)
  · refine va_last hx hb hK hP (l2_D (A := lA x w) hne (Or.inl rfl) (Or.inr rfl)) hS 1 1 rfl rfl (vp_in_nI (n := 0) (N := 1) (by decide) (by decide)) d_MainLaw_into_9 (fun H locs hP _ hS => ?_)
    refine lv_goto (tgt := 29) hx hb d_MainLaw_into_10 (by decide) ?_
    refine lv_iconst (v := (0 : Int32)) hx hb d_MainLaw_into_29 (by decide) ?_
    exact vx_ret (W.iret hx hb hr (fun t ht _ => ⟨by rw [hw]; rfl, by rw [ht, if_pos hw, if_pos hw]; exact hP, hS.F ht⟩) hS.2.2 d_MainLaw_into_30)
  · have hc4 : (q_Operations_answer a0 a1 la).1 = 1 ∨ (q_Operations_answer a0 a1 la).1 = 2 ∨ (q_Operations_answer a0 a1 la).1 = 3 ∨ (q_Operations_answer a0 a1 la).1 = 4 := by omega
    rcases hc4 with h | h | h | h
    · rw [h]
      refine lv_astore (lv' := (5, .ref q) :: [(0, .ref x), (1, .int a0), (2, .long a1), (4, .ref w)]) hx hb d_MainLaw_into_13 hl (by decide) rfl (fun ls hl => ?_)
      refine lv_iconst (v := (1 : Int32)) hx hb d_MainLaw_into_15 (by decide) ?_
      exact vx_ret (W.iret hx hb hr (fun t ht _ => ⟨by rw [h]; rfl, by rw [ht, if_neg hw, if_neg hw]; exact hP, hS.F ht⟩) hS.2.2 d_MainLaw_into_16)
    · rw [h]
      refine lv_astore (lv' := (5, .ref q) :: [(0, .ref x), (1, .int a0), (2, .long a1), (4, .ref w)]) hx hb d_MainLaw_into_17 hl (by decide) rfl (fun ls hl => ?_)
      refine lv_iconst (v := (2 : Int32)) hx hb d_MainLaw_into_19 (by decide) ?_
      exact vx_ret (W.iret hx hb hr (fun t ht _ => ⟨by rw [h]; rfl, by rw [ht, if_neg hw, if_neg hw]; exact hP, hS.F ht⟩) hS.2.2 d_MainLaw_into_20)
    · rw [h]
      refine lv_astore (lv' := (5, .ref q) :: [(0, .ref x), (1, .int a0), (2, .long a1), (4, .ref w)]) hx hb d_MainLaw_into_21 hl (by decide) rfl (fun ls hl => ?_)
      refine lv_iconst (v := (3 : Int32)) hx hb d_MainLaw_into_23 (by decide) ?_
      exact vx_ret (W.iret hx hb hr (fun t ht _ => ⟨by rw [h]; rfl, by rw [ht, if_neg hw, if_neg hw]; exact hP, hS.F ht⟩) hS.2.2 d_MainLaw_into_24)
    · rw [h]
      refine lv_astore (lv' := (5, .ref q) :: [(0, .ref x), (1, .int a0), (2, .long a1), (4, .ref w)]) hx hb d_MainLaw_into_25 hl (by decide) rfl (fun ls hl => ?_)
      refine lv_iconst (v := (4 : Int32)) hx hb d_MainLaw_into_27 (by decide) ?_
      exact vx_ret (W.iret hx hb hr (fun t ht _ => ⟨by rw [h]; rfl, by rw [ht, if_neg hw, if_neg hw]; exact hP, hS.F ht⟩) hS.2.2 d_MainLaw_into_28)
