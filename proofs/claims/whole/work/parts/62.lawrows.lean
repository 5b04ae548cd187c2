/-! THE LAW'S WORLD: the class's object x, the answer's cell w, the reference o with its row r -/
abbrev w4_ (x w o r : Nat) (cB cJ : ClassId) (la : Int64) (g : Nat → Int64) (fs : List Value) (f : Nat → Int32) : va_W := [(x, .inr (1, [.long la])), (w, .inl (cJ, 1, .inr (.inl g))), (o, .inr (0, fs)), (r, .inl (cB, 4400, .inl f))]
def n4_ (x w o r : Nat) : Prop := x ≠ w ∧ x ≠ o ∧ x ≠ r ∧ w ≠ o ∧ w ≠ r ∧ o ≠ r
theorem w4_l {D : va_G} {x w o r : Nat} {cB cJ : ClassId} {la la' : Int64} {g g' : Nat → Int64} {fs : List Value} {f : Nat → Int32} {H H1 : Heap} (hd : n4_ x w o r) (hP : va_P D clR (w4_ x w o r cB cJ la g fs f) H) (hP1 : va_P D clR (l2_ x w cJ la' g') H1) (hk : ∀ q : Nat, q < H.size → ¬ lA x w q → H1[q]? = H[q]?) : va_P D clR (w4_ x w o r cB cJ la' g' fs f) H1 := by
  obtain ⟨d1, d2, d3, d4, d5, d6⟩ := hd
  intro k q h
  match k, h with
  | 0, h => cases h; exact hP1 0 _ rfl
  | 1, h => cases h; exact hP1 1 _ rfl
  | 2, h => cases h; exact (hP 2 _ rfl).kept (hk o (hP 2 _ rfl).lt (fun z => z.elim (fun z => d2 z.symm) (fun z => d4 z.symm)))
  | 3, h => cases h; exact (hP 3 _ rfl).kept (hk r (hP 3 _ rfl).lt (fun z => z.elim (fun z => d3 z.symm) (fun z => d5 z.symm)))
  | k + 4, h => simp at h
theorem w4_r {D : va_G} {x w o r : Nat} {cB cJ : ClassId} {la : Int64} {g : Nat → Int64} {fs fs' : List Value} {f f' : Nat → Int32} {H H1 : Heap} (hd : n4_ x w o r) (hP : va_P D clR (w4_ x w o r cB cJ la g fs f) H) (hP1 : va_P D clR (rw_ o r cB fs' f') H1) (hk : ∀ q : Nat, q < H.size → ¬ rA o r q → H1[q]? = H[q]?) : va_P D clR (w4_ x w o r cB cJ la g fs' f') H1 := by
  obtain ⟨d1, d2, d3, d4, d5, d6⟩ := hd
  intro k q h
  match k, h with
  | 0, h => cases h; exact (hP 0 _ rfl).kept (hk x (hP 0 _ rfl).lt (fun z => z.elim d2 d3))
  | 1, h => cases h; exact (hP 1 _ rfl).kept (hk w (hP 1 _ rfl).lt (fun z => z.elim d4 d5))
  | 2, h => cases h; exact hP1 0 _ rfl
  | 3, h => cases h; exact hP1 1 _ rfl
  | k + 4, h => simp at h
theorem bt_GW {y : MethodName} {bytes : ByteArray} {maxL : Nat} {ret : Option FieldType} {hh : List (Nat × Nat × Nat × Nat)} (hc : Cond.codeWith y bytes maxL ret hh ∈ BT) : GoodIn BT (Cond.codeWith y bytes maxL ret hh :: BT) := by
  intro w hw
  rcases List.mem_cons.mp hw with rfl | h
  · exact ⟨hc, bt_good hc⟩
  · exact ⟨h, bt_good h⟩
def LB (y : MethodName) (bytes : ByteArray) (maxL : Nat) (ret : Option FieldType) (hh : List (Nat × Nat × Nat × Nat)) (n : Nat) : Prop :=
  Cond.codeWith y bytes maxL ret hh ∈ BT ∧ Cond.static y ∈ BT ∧ Cond.initialized y.cls ∈ BT ∧ (y.cls ≠ "java/lang/invoke/MethodHandle" ∧ y.cls ≠ "java/lang/invoke/VarHandle" ∧ (parseMethodDescriptor y.desc).map (fun d => d.parameters.length) = some n)
section LW1
variable {p : Program} {l : Launch} {e : Env} {R : Room} {s : State} {m : MethodId} {args : Array Value} {below : List Frame} {meth : Method} {c : Code} {Q : State → Prop} {H : Heap} {locs : List Loc} {cells slots : Nat}
variable {A : Nat → Prop} {ad : Nat → Nat} {cc bytes : ByteArray} {nL maxL n index pc x w o r : Nat} {y : MethodName} {ret : Option FieldType} {hh : List (Nat × Nat × Nat × Nat)} {rm : Room} {As rest st0 : List Value} {ls : Array Slot} {D : va_G} {cB cJ : ClassId} {la : Int64} {g : Nat → Int64} {fs : List Value} {f : Nat → Int32} {Pc : Array Value → State → Prop} {Qc : Array Value → State → Outcome → State → Prop} {k : Option Value → List Value → (Nat → Int32) → Prop}
theorem lk_ {W9 : Nat × Int64} (hq : FX p s m args c A ad cc nL nLw) (hN : NW ad s) (hC : CW s) (hK : va_K D clR (tyR cB cJ) s) (hA : A x ∧ A w ∧ A o ∧ A r) (hd : n4_ x w o r) (hP : va_P D clR (w4_ x w o r cB cJ la g fs f) H) (hS : va_S A s.heap H locs)
    (hM : vx_Met l y (Cond.codeWith y bytes maxL ret hh :: BT) rm (PL A ad D cB cJ x w la g As) (QL D cJ x w la g W9) (fun _ _ _ => False) 1 6 (lA x w)) (K : LB y bytes maxL ret hh n) (hl : Cond.methodLink nLw index y ∈ BT)
    (hrm : rm.cells = 1 ∧ rm.slots = 6 ∧ rm.frames + 1 ≤ R.frames ∧ 8 + (maxL + 11) + rm.locals ≤ R.locals) (hn : As.length = n) (hsize : ls.size = nL) (hstack : st0 = As.reverse ++ rest) (hW : (rest.map fun v => v.category).sum ≤ 8)
    (hdg : decode cc pc = .ok (.invokestatic index, 3)) (hf : cells + 1 ≤ R.cells ∧ slots + 6 ≤ R.slots)
    (kk : ∀ (H : Heap) (locs : List Loc), va_P D clR (w4_ x w o r cB cJ (if W9.1 = 0 then W9.2 else la) (if W9.1 = 0 then vp_updL g 0 W9.2 else g) fs f) H → va_S A s.heap H locs → W p l e R s m args below meth c H locs (cells + 1) (slots + 6) Q (F0 m (pc + 3) ls (.int (nI W9.1) :: rest))) :
    W p l e R s m args below meth c H locs cells slots Q (F0 m pc ls st0) := by
  obtain ⟨k1, k2, k3, k4⟩ := K
  obtain ⟨r1, r2, r3⟩ := hrm
  have hts := hq.2.2.2.2.1
  have hFH : FW A ad s H := FW.kept hq.2.2.2.2.2 hS.2.1
  have hPl : va_P D clR (l2_ x w cJ la g) H := hP.sub [0, 1] rfl
  have cw : vx_CSW R s args nLw index y bytes maxL ret hh (Cond.codeWith y bytes maxL ret hh :: BT) rm 1 6 n := ⟨⟨r1, r2, r3.1, r3.2, pay_in hts (bt_GW k1), List.mem_cons_self⟩, hts _ k1, hts _ k3, ⟨k4.1, k4.2.1⟩, fun sig h => by have h2 := k4.2.2; rw [h] at h2; exact (Option.some.inj h2).symm, hts _ hl, hts _ k2⟩
  have hpre : PreS s H (PL A ad D cB cJ x w la g As) As := ⟨pl_blind, fun U hU hW => ⟨rfl, show FW A ad U U.heap from by rw [hU]; exact FW.moved hW.alike hFH, NW.warm hW hN, CW.moved hW.alike hC, by rw [hU]; exact hPl, va_K.moved hW.alike hK⟩⟩
  have hr := vx_runSX (p := p) (e := e) (below := below) (meth := meth) (locs := locs) (cells := cells) (slots := slots) (rest := rest) (g := F0 m pc ls st0) (fx_cf hq) hM cw hpre rfl hn hsize hstack (lv_room hW) hdg hf
  intro T hT X
  rcases hr T hT X with ⟨v, st₀, t, T', L, h0, X', hL, e1, e2, ⟨hv, hP1, hF1⟩, st⟩ | ⟨q, st₀, t, T', L, E, ce, h0, X', hL, e1, e2, hno, -⟩
  · cases hv
    have hPw := w4_l (H1 := T'.heap) hd hP (by rw [e1]; exact hP1) (fun q h1 h2 => by rw [e1, hF1.2 q (by rw [h0]; exact h1) h2, h0])
    have hSw : va_S A s.heap T'.heap (locs ++ L) := (vx_keep (A0 := A) (A1 := lA x w) (free := lA x w) h0 e1 hS (fun q _ h => by rcases h with rfl | rfl; exact hA.1; exact hA.2.1) (fun q h => by rcases h with rfl | rfl; exact hA.1; exact hA.2.1) hL hF1).2.2
    obtain ⟨t2, a1, b1⟩ := kk T'.heap _ hPw hSw T' rfl X'
    exact ⟨t2, st t2 a1, b1⟩
  · exact hno.elim
/-- a call of a method of the reference -/
theorem lr_ (hq : FX p s m args c A ad cc nL nLw) (hK : va_K D clR (tyR cB cJ) s) (hA : A x ∧ A w ∧ A o ∧ A r) (hd : n4_ x w o r) (hP : va_P D clR (w4_ x w o r cB cJ la g fs f) H) (hS : va_S A s.heap H locs)
    (hM : Met l y (Cond.code y bytes maxL ret :: BT) rm (PR A ad D cB cJ o r fs f As) Qc 0 0 (rA o r)) (hQ : ∀ a st oc t, Qc a st oc t → QP D cB o r k a st oc t) (K : RB y bytes maxL ret n) (hl : Cond.methodLink nLw index y ∈ BT)
    (hrm : rm.cells = 0 ∧ rm.slots = 0 ∧ rm.frames + 1 ≤ R.frames ∧ 8 + (maxL + 11) + rm.locals ≤ R.locals) (hn : As.length = n) (hsize : ls.size = nL) (hstack : st0 = As.reverse ++ .ref o :: rest) (hW : (rest.map fun v => v.category).sum ≤ 8)
    (hdg : decode cc pc = .ok (.invokevirtual index, 3)) (hf : cells ≤ R.cells ∧ slots ≤ R.slots)
    (kk : ∀ (v : Option Value) (fs : List Value) (f : Nat → Int32) (H : Heap) (locs : List Loc), k v fs f → va_P D clR (w4_ x w o r cB cJ la g fs f) H → va_S A s.heap H locs → W p l e R s m args below meth c H locs cells slots Q (F0 m (pc + 3) ls (v.toList ++ rest))) :
    W p l e R s m args below meth c H locs cells slots Q (F0 m pc ls st0) := by
  obtain ⟨k1, k2, k2', k3, k4⟩ := K
  obtain ⟨r1, r2, r3⟩ := hrm
  have hts := hq.2.2.2.2.1
  have hFH : FW A ad s H := FW.kept hq.2.2.2.2.2 hS.2.1
  have hPr : va_P D clR (rw_ o r cB fs f) H := hP.sub [2, 3] rfl
  have cb := bt_cb (R := R) (rm := rm) hq k1 k3 k4 hl r3
  rw [r1, r2] at cb
  have hpre : PreV s H nRf o (PR A ad D cB cJ o r fs f As) As := ⟨pr_blind, va_recv hK hPr (ci := 0) (q0 := 0) rfl rfl, fun U hU hW => ⟨rfl, show FW A ad U U.heap from by rw [hU]; exact FW.moved hW.alike hFH, by rw [hU]; exact hPr, va_K.moved hW.alike hK⟩⟩
  have hr := W.runV (p := p) (e := e) (below := below) (meth := meth) (locs := locs) (cells := cells) (slots := slots) (rest := rest) (g := F0 m pc ls st0) (fx_cf hq) hM ⟨cb, hts _ k2, hts _ k2'⟩ hpre rfl hn hsize hstack (lv_room hW) hdg hf
  intro T hT X
  obtain ⟨v9, st₀, t, T', L, h0, X', hL, e1, hq9, st⟩ := hr T hT X
  obtain ⟨v, fs9, f9, hv, hk, hp, hF⟩ := hQ _ _ _ _ hq9
  cases hv
  have hPw := w4_r (H1 := T'.heap) hd hP (by rw [e1]; exact hp) (fun q h1 h2 => by rw [e1, hF.2 q (by rw [h0]; exact h1) h2, h0])
  have hSw : va_S A s.heap T'.heap (locs ++ L) := (vx_keep (A0 := A) (A1 := rA o r) (free := rA o r) h0 e1 hS (fun q _ h => by rcases h with rfl | rfl; exact hA.2.2.1; exact hA.2.2.2) (fun q h => by rcases h with rfl | rfl; exact hA.2.2.1; exact hA.2.2.2) hL hF).2.2
  obtain ⟨t2, a1, b1⟩ := kk v9 fs9 f9 T'.heap _ hk hPw hSw T' rfl X'
  exact ⟨t2, st t2 a1, b1⟩
/-- a call of a method of the class that changes nothing -/
theorem lm_ {v : Value} (hq : FX p s m args c A ad cc nL nLw) (hK : va_K D clR (tyR cB cJ) s) (hP : va_P D clR (w4_ x w o r cB cJ la g fs f) H) (hS : va_S A s.heap H locs)
    (hM : Met l y (Cond.code y bytes maxL ret :: BT) rm Pc Qc 0 0 (fun _ => False)) (hbl : FrameBlind Pc) (hpc : ∀ U : State, U.heap = H → s.WarmedH U.vm → Pc (Value.ref x :: As).toArray U) (hQ : ∀ a st oc t, Qc a st oc t → oc = .returned (some v) ∧ t.heap = st.heap) (K : MB y bytes maxL ret n) (hl : Cond.methodLink nLw index y ∈ BT)
    (hrm : rm.cells = 0 ∧ rm.slots = 0 ∧ rm.frames + 1 ≤ R.frames ∧ 8 + (maxL + 11) + rm.locals ≤ R.locals) (hn : As.length = n) (hsize : ls.size = nL) (hstack : st0 = As.reverse ++ .ref x :: rest) (hW : (rest.map fun v => v.category).sum ≤ 8)
    (hdg : decode cc pc = .ok (.invokevirtual index, 3)) (hf : cells ≤ R.cells ∧ slots ≤ R.slots)
    (kk : W p l e R s m args below meth c H locs cells slots Q (F0 m (pc + 3) ls (v :: rest))) :
    W p l e R s m args below meth c H locs cells slots Q (F0 m pc ls st0) := by
  obtain ⟨k1, k2, k2', k3, k4⟩ := K
  obtain ⟨r1, r2, r3⟩ := hrm
  have hts := hq.2.2.2.2.1
  have cb := bt_cb (R := R) (rm := rm) hq k1 k3 k4 hl r3
  rw [r1, r2] at cb
  have hpre : PreV s H nMn x Pc As := ⟨hbl, va_recv hK hP (ci := 1) (q0 := 0) rfl rfl, hpc⟩
  have hr := W.runV (p := p) (e := e) (below := below) (meth := meth) (locs := locs) (cells := cells) (slots := slots) (rest := rest) (g := F0 m pc ls st0) (fx_cf hq) hM ⟨cb, hts _ k2, hts _ k2'⟩ hpre rfl hn hsize hstack (lv_room hW) hdg hf
  intro T hT X
  obtain ⟨v9, st₀, t, T', L, h0, X', hL, e1, hq9, st⟩ := hr T hT X
  obtain ⟨hv, hh9⟩ := hQ _ _ _ _ hq9
  cases hv
  have hL0 : L = [] := List.eq_nil_iff_forall_not_mem.mpr (fun q h => hL q h)
  rw [hL0, List.append_nil] at X'
  obtain ⟨t2, a1, b1⟩ := kk T' (by rw [e1, hh9, h0]) X'
  exact ⟨t2, st t2 a1, b1⟩
end LW1
