/-! the reference's row: reads, writes; ends that tell of the state by a property -/
def QP (D : va_G) (cB : ClassId) (o r : Nat) (k : Option Value → List Value → (Nat → Int32) → Prop) : Array Value → State → Outcome → State → Prop := fun _ st oc t => ∃ (v : Option Value) (fs : List Value) (f : Nat → Int32), oc = .returned v ∧ k v fs f ∧ va_P D clR (rw_ o r cB fs f) t.heap ∧ va_F (rA o r) st t
section RQ1
variable {p : Program} {l : Launch} {e : Env} {R : Room} {s : State} {m : MethodId} {args : Array Value} {below : List Frame} {meth : Method} {c : Code} {H : Heap} {locs : List Loc} {cells slots : Nat} {Q : State → Prop}
variable {A : Nat → Prop} {ad : Nat → Nat} {D : va_G} {cB cJ : ClassId} {o r : Nat} {fs : List Value} {f : Nat → Int32} {cc bytes : ByteArray} {nL maxL n index pc : Nat} {own : String} {y : MethodName} {ret : Option FieldType} {rm : Room} {As rest st0 : List Value} {ls : Array Slot} {k : Option Value → List Value → (Nat → Int32) → Prop}
theorem rq_ (hq : FR p s m args c A ad D cB cJ cc nL own) (hA : ∀ q, rA o r q → A q) (hP : va_P D clR (rw_ o r cB fs f) H) (hS : va_S (rA o r) s.heap H locs) (hM : Met l y (Cond.code y bytes maxL ret :: BT) rm (PR A ad D cB cJ o r fs f As) (QP D cB o r k) 0 0 (rA o r)) (K : RB y bytes maxL ret n) (hl : Cond.methodLink own index y ∈ BT)
    (hrm : rm.cells = 0 ∧ rm.slots = 0 ∧ rm.frames + 1 ≤ R.frames ∧ 8 + (maxL + 11) + rm.locals ≤ R.locals) (hn : As.length = n) (hsize : ls.size = nL) (hstack : st0 = As.reverse ++ .ref o :: rest) (hW : (rest.map fun v => v.category).sum ≤ 8)
    (hdg : decode cc pc = .ok (.invokevirtual index, 3)) (hf : cells ≤ R.cells ∧ slots ≤ R.slots) (kk : ∀ (v : Option Value) (fs : List Value) (f : Nat → Int32) (H : Heap) (locs : List Loc), k v fs f → va_P D clR (rw_ o r cB fs f) H → va_S (rA o r) s.heap H locs → W p l e R s m args below meth c H locs cells slots Q (F0 m (pc + 3) ls (v.toList ++ rest))) : W p l e R s m args below meth c H locs cells slots Q (F0 m pc ls st0) := by
  obtain ⟨k1, k2, k2', k3, k4⟩ := K
  obtain ⟨r1, r2, r3⟩ := hrm
  have cb := fr_cb (R := R) (rm := rm) hq k1 k3 k4 hl r3
  rw [r1, r2] at cb
  have hr := W.runV (p := p) (e := e) (below := below) (meth := meth) (locs := locs) (cells := cells) (slots := slots) (rest := rest) (g := F0 m pc ls st0) (fr_cf hq) hM ⟨cb, hq.2.2.2.2.1 _ k2, hq.2.2.2.2.1 _ k2'⟩ (rv_pre hq hA hP hS) rfl hn hsize hstack (lv_room hW) hdg hf
  intro T hT X
  obtain ⟨v9, st₀, t, T', L, h0, X', hL, e1, ⟨v, fs9, f9, hv, hk, hp, hF⟩, st⟩ := hr T hT X
  cases hv
  obtain ⟨t2, a1, b1⟩ := kk v9 fs9 f9 T'.heap (locs ++ L) hk (by rw [e1]; exact hp) (rv_S h0 e1 hS hL hF) T' rfl X'
  exact ⟨t2, st t2 a1, b1⟩
theorem qr_l {v : Int64} (hq : FR p s m args c A ad D cB cJ cc nL own) (hr : meth.sig.returnType = some .long) (hk : meth.locks = false) (hP : va_P D clR (rw_ o r cB fs f) H) (hS : va_S (rA o r) s.heap H locs) (hv : k (some (.long v)) fs f) (hdg : decode cc pc = .ok (.lreturn, 1)) :
    W p l e R s m args below meth c H locs cells slots (MQ below (QP D cB o r k) args s cells slots (rA o r)) (F0 m pc ls [.long v]) :=
  W.lret hq.1 hq.2.1 hr (fun t ht _ => ⟨_, fs, f, rfl, hv, by rw [ht]; exact hP, hS.F ht⟩) hS.2.2 hdg
theorem qr_i {v : Int32} (hq : FR p s m args c A ad D cB cJ cc nL own) (hr : meth.sig.returnType = some .int) (hk : meth.locks = false) (hP : va_P D clR (rw_ o r cB fs f) H) (hS : va_S (rA o r) s.heap H locs) (hv : k (some (.int v)) fs f) (hdg : decode cc pc = .ok (.ireturn, 1)) :
    W p l e R s m args below meth c H locs cells slots (MQ below (QP D cB o r k) args s cells slots (rA o r)) (F0 m pc ls [.int v]) :=
  W.iret hq.1 hq.2.1 hr (fun t ht _ => ⟨_, fs, f, rfl, hv, by rw [ht]; exact hP, hS.F ht⟩) hS.2.2 hdg
theorem qr_z {v : Int32} (hq : FR p s m args c A ad D cB cJ cc nL own) (hr : meth.sig.returnType = some .boolean) (hk : meth.locks = false) (hn : v = 0 ∨ v = 1) (hP : va_P D clR (rw_ o r cB fs f) H) (hS : va_S (rA o r) s.heap H locs) (hv : k (some (.int v)) fs f) (hdg : decode cc pc = .ok (.ireturn, 1)) :
    W p l e R s m args below meth c H locs cells slots (MQ below (QP D cB o r k) args s cells slots (rA o r)) (F0 m pc ls [.int v]) :=
  W.zret hq.1 hq.2.1 hr (nb_ hn) (fun t ht _ => ⟨_, fs, f, rfl, hv, by rw [ht]; exact hP, hS.F ht⟩) hS.2.2 hdg
theorem qr_v (hq : FR p s m args c A ad D cB cJ cc nL own) (hr : meth.sig.returnType = none) (hk : meth.locks = false) (hP : va_P D clR (rw_ o r cB fs f) H) (hS : va_S (rA o r) s.heap H locs) (hv : k none fs f) (hdg : decode cc pc = .ok (.return_, 1)) :
    W p l e R s m args below meth c H locs cells slots (MQ below (QP D cB o r k) args s cells slots (rA o r)) (F0 m pc ls []) :=
  W.vret hq.1 hq.2.1 hr (fun t ht _ => ⟨_, fs, f, rfl, hv, by rw [ht]; exact hP, hS.F ht⟩) hS.2.2 hdg
theorem rb_ {j : Nat} (hq : FR p s m args c A ad D cB cJ cc nL own) (hP : va_P D clR (rw_ o r cB fs f) H) (hj : j < 4400) (hdg : decode cc pc = .ok (.baload, 1))
    (kk : W p l e R s m args below meth c H locs cells slots Q (F0 m (pc + 1) ls (.int (f j) :: rest))) : W p l e R s m args below meth c H locs cells slots Q (F0 m pc ls (.int (nI j) :: .ref r :: rest)) := by
  refine va_bald hq.1 hq.2.1 hq.2.2.2.2.2.2 hP 1 0 rfl rfl (vp_in_nI hj (by decide)) hdg ?_
  rw [nI_clamp (by omega)]
  exact kk
theorem rs_ {j : Nat} {x : Int32} (hq : FR p s m args c A ad D cB cJ cc nL own) (hne : o ≠ r) (hP : va_P D clR (rw_ o r cB fs f) H) (hS : va_S (rA o r) s.heap H locs) (hj : j < 4400) (hdg : decode cc pc = .ok (.bastore, 1))
    (kk : ∀ (H : Heap) (locs : List Loc), va_P D clR (rw_ o r cB fs (upd f j (vp_nar .byte x))) H → va_S (rA o r) s.heap H locs → W p l e R s m args below meth c H locs cells slots Q (F0 m (pc + 1) ls rest)) : W p l e R s m args below meth c H locs cells slots Q (F0 m pc ls (.int x :: .int (nI j) :: .ref r :: rest)) := by
  refine va_bast hq.1 hq.2.1 hq.2.2.2.2.2.2 hP (rw_D (A := rA o r) hne (Or.inl rfl) (Or.inr rfl)) hS 1 0 rfl rfl (vp_in_nI hj (by decide)) hdg (fun H1 locs1 a1 _ a3 => ?_)
  rw [nI_clamp (by omega)] at a1
  exact kk H1 locs1 a1 a3
theorem rl_n (hq : FR p s m args c A ad D cB cJ cc nL own) (hP : va_P D clR (rw_ o r cB fs f) H) (hdg : decode cc pc = .ok (.arraylength, 1))
    (kk : W p l e R s m args below meth c H locs cells slots Q (F0 m (pc + 1) ls (.int (nI 4400) :: rest))) : W p l e R s m args below meth c H locs cells slots Q (F0 m pc ls (.ref r :: rest)) :=
  va_alen hq.1 hq.2.1 hq.2.2.2.2.2.2 hP 1 0 rfl rfl rfl hdg kk
end RQ1
/-- the row holds the bits of N; nothing below low, nothing above high -/
def RowIs (f : Nat → Int32) (N : Nat) : Prop := ∀ k, k < 4400 → f k = nI (N / 2 ^ k % 2)
def RI (lo hi : Int32) (N : Nat) : Prop := ∃ a b : Nat, lo = nI a ∧ hi = nI b ∧ a ≤ 4400 ∧ b < 4400 ∧ N % 2 ^ a = 0 ∧ N < 2 ^ (b + 1)
theorem bit_lo {N a k : Nat} (h : N % 2 ^ a = 0) (hk : k < a) : N / 2 ^ k % 2 = 0 := by
  obtain ⟨q, rfl⟩ := Nat.dvd_of_mod_eq_zero h
  rw [show 2 ^ a = 2 ^ k * (2 * 2 ^ (a - k - 1)) by rw [← Nat.pow_succ', ← Nat.pow_add]; congr 1; omega, Nat.mul_assoc, Nat.mul_div_cancel_left _ (Nat.two_pow_pos k), Nat.mul_assoc, Nat.mul_mod_right]
theorem bit_hi {N b k : Nat} (h : N < 2 ^ (b + 1)) (hk : b < k) : N / 2 ^ k % 2 = 0 := by
  have : 2 ^ (b + 1) ≤ 2 ^ k := Nat.pow_le_pow_right (by decide) hk
  rw [Nat.div_eq_of_lt (by omega)]
/-- the lowest k + 1 bits -/
theorem mod_succ_ (N k : Nat) : N % 2 ^ (k + 1) = N % 2 ^ k + N / 2 ^ k % 2 * 2 ^ k := by
  rw [Nat.pow_succ, Nat.mod_mul]
  rw [Nat.mul_comm (2 ^ k)]
