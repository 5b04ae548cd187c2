/-! THE CONSTRUCTORS -/
set_option maxHeartbeats 4000000 in
theorem c_Main_init (l : Launch) (D : va_G) (x : Nat) (la : Int64) : Met l y_Main_init (Cond.code y_Main_init b_Main_init 1 none :: BT) ({ frames := 1, cells := 0, slots := 0, locals := 13 }) (va_Pc [.ref x] (fun U => va_P D clR (mw_ x la) U.heap ∧ va_K D clR [] U)) (va_Qv (fun _ : Unit => True) (fun _ t => va_P D clR (mw_ x 0) t.heap) (mA x)) 0 0 (mA x) := by
  refine Met.ofW (cc := b_Main_init) (maxL := 1) (ret := none) (by decide) rfl ?_
  intro p e s m args below meth c s₁ B hml hv
  obtain ⟨rfl, hP, hK⟩ := hv
  have hx := B.exec
  have hb := B.bytes
  have hr := B.returns
  have hts0 := atoms_spec (ws := Cond.code y_Main_init b_Main_init 1 none :: BT) B.pre
  have hts : ∀ w ∈ BT, w.before #[Value.ref x] s = true := fun w h => hts0 w (List.mem_cons_of_mem _ h)
  have hown : s.vm.findClass nMn = some m.cls := findClass_of_methodNamed B.named
  have hlocks := B.notSynchronized
  have hl := lv_entry ([.ref x]) (n := 1) (Nat.le_of_ble_eq_true rfl)
  rw [lg_entry_eq]
  generalize (lg_sl ([.ref x]) ++ List.replicate (1 - (lg_sl ([.ref x])).length) Slot.unset).toArray = ls at hl ⊢
  have hl : lv_has ls 1 [(0, .ref x)] := hl
  refine lv_aload_n hx hb d_Main_init_0 rfl (lv_at hl 0 rfl) ?_
  refine W.objInit hx hb hown (hts _ wt_61) (hts _ wt_62) (hts _ wt_63) rfl (by rw [hml]; exact hl.1) rfl d_Main_init_1 (Nat.le_of_ble_eq_true rfl) (Nat.le_of_ble_eq_true rfl) ?_
  refine W.eq (g2 := F0 m 4 ls []) rfl ?_
  refine lv_aload_n hx hb d_Main_init_4 rfl (lv_at hl 0 rfl) ?_
  refine lv_lconst (v := 0) hx hb d_Main_init_5 (by decide) ?_
  refine va_put (ci := 1) (C := nMn) (T := TM) (N := 1) hx hb hts uwM tM tM_ok nmM hown hK hP (mw_D (A := mA x) rfl) va_S.rf 0 rfl rfl 0 (by decide) (hts _ wt_64) (fun _ h9 => h9) rfl (ty := .long) rfl rfl rfl (Nat.le_of_ble_eq_true rfl) d_Main_init_6 (fun H locs hP _ hS => ?_)
  exact W.vret hx hb hr (fun t ht hW => ⟨⟨(), rfl, trivial, by show va_P D clR (mw_ x 0) t.heap; rw [ht]; exact hP⟩, hS.F ht⟩) hS.2.2 d_Main_init_9
/-- the reference's fields ahead of its constructor -/
abbrev rz0_ : List Value := [.int 0, .long 0, .null, .int 0, .int 0, .int 0, .int 0, .int 0, .int 0, .int 0, .long 0, .int 0]
def iA (o sz : Nat) : Nat → Prop := fun q => q = o ∨ sz ≤ q
theorem iD1 {o sz : Nat} {e : va_E} : va_D (iA o sz) [(o, e)] := by
  refine ⟨fun i j p q hi hj _ => ?_, fun k q hk => ?_⟩
  · match i, j, hi, hj with
    | 0, 0, _, _ => rfl
    | i + 1, _, hi, _ => simp at hi
    | _, j + 1, _, hj => simp at hj
  · match k, hk with
    | 0, hk => cases hk; exact Or.inl rfl
    | k + 1, hk => simp at hk
set_option maxHeartbeats 4000000 in
theorem c_Ref_init (l : Launch) (D : va_G) (o sz : Nat) : Met l y_Ref_init (Cond.code y_Ref_init b_Ref_init 1 none :: BT) ({ frames := 1, cells := 1, slots := 4400, locals := 13 }) (va_Pc [.ref o] (fun U => U.heap.size = sz ∧ va_P D clR [(o, .inr (0, rz0_))] U.heap ∧ va_K D clR [] U)) (va_Qv (fun _ : Nat × ClassId => True) (fun u t => va_P D clR (rw_ o u.1 u.2 (rf_ 0 0 u.1 1 0 0 0 0 0 0 0 0) (fun _ => 0)) t.heap ∧ va_K D clR [(u.2, .byte)] t ∧ va_D (iA o sz) (rw_ o u.1 u.2 (rf_ 0 0 u.1 1 0 0 0 0 0 0 0 0) (fun _ => 0))) (iA o sz)) 1 4400 (iA o sz) := by
  refine Met.ofW (cc := b_Ref_init) (maxL := 1) (ret := none) (by decide) rfl ?_
  intro p e s m args below meth c s₁ B hml hv
  obtain ⟨rfl, hsz, hP, hK⟩ := hv
  subst hsz
  have hx := B.exec
  have hb := B.bytes
  have hr := B.returns
  have hts0 := atoms_spec (ws := Cond.code y_Ref_init b_Ref_init 1 none :: BT) B.pre
  have hts : ∀ w ∈ BT, w.before #[Value.ref o] s = true := fun w h => hts0 w (List.mem_cons_of_mem _ h)
  have hown : s.vm.findClass nRf = some m.cls := findClass_of_methodNamed B.named
  have hlocks := B.notSynchronized
  have hin : meth.name = "<init>" := (name_of_methodNamed B.named B.method).1
  have hD : va_D (iA o s.heap.size) [(o, .inr (0, rz0_))] := iD1
  have hA : ∀ q : Nat, s.heap.size ≤ q → iA o s.heap.size q := fun q h => Or.inr h
  have hS : va_S (iA o s.heap.size) s.heap s.heap [] := va_S.rf
  have hl := lv_entry ([.ref o]) (n := 1) (Nat.le_of_ble_eq_true rfl)
  rw [lg_entry_eq]
  generalize (lg_sl ([.ref o]) ++ List.replicate (1 - (lg_sl ([.ref o])).length) Slot.unset).toArray = ls at hl ⊢
  have hl : lv_has ls 1 [(0, .ref o)] := hl
  refine lv_aload_n hx hb d_Ref_init_0 rfl (lv_at hl 0 rfl) ?_
  refine W.objInit hx hb hown (hts _ wt_483) (hts _ wt_62) (hts _ wt_63) rfl (by rw [hml]; exact hl.1) rfl d_Ref_init_1 (Nat.le_of_ble_eq_true rfl) (Nat.le_of_ble_eq_true rfl) ?_
  refine W.eq (g2 := F0 m 4 ls []) rfl ?_
  refine lv_aload_n hx hb d_Ref_init_4 rfl (lv_at hl 0 rfl) ?_
  refine lv_sipush (v := (4400 : Int32)) hx hb d_Ref_init_5 (by decide) ?_
  refine va_newa (a0 := (4400, .inl (fun _ => 0))) (atype := .byte) (ty := .byte) hx hb (hts _ wt_189) rfl hK hP hD hS hA (fun cA => rfl) (by decide) (by decide) (by decide) (Nat.le_of_ble_eq_true rfl) (Nat.le_of_ble_eq_true rfl) d_Ref_init_8 (fun r cA H hK hP hD hS => ?_)
  have hP : va_P D clR [(o, .inr (0, rz0_)), (r, .inl (cA, 4400, .inl (fun _ => 0)))] H := hP
  have hD : va_D (iA o s.heap.size) [(o, .inr (0, rz0_)), (r, .inl (cA, 4400, .inl (fun _ => 0)))] := hD
  refine va_putF (ci := 0) (C := nRf) (T := TR) (N := 12) hx hb hts uwR tR tR_ok nmR hown hK hP hD hS 0 rfl rfl 2 (by decide) (hts _ wt_486) (fun _ h9 => h9) rfl hin rfl (ty := tR 2) rfl rfl rfl (Nat.le_of_ble_eq_true rfl) d_Ref_init_10 (fun H locs hP hD hS => ?_)
  refine lv_aload_n hx hb d_Ref_init_13 rfl (lv_at hl 0 rfl) ?_
  refine lv_iconst (v := (1 : Int32)) hx hb d_Ref_init_14 (by decide) ?_
  refine va_put (ci := 0) (C := nRf) (T := TR) (N := 12) hx hb hts uwR tR tR_ok nmR hown hK hP hD hS 0 rfl rfl 3 (by decide) (hts _ wt_487) (fun _ h9 => h9) rfl (ty := tR 3) rfl rfl rfl (Nat.le_of_ble_eq_true rfl) d_Ref_init_15 (fun H locs hP hD hS => ?_)
  refine lv_aload_n hx hb d_Ref_init_18 rfl (lv_at hl 0 rfl) ?_
  refine lv_iconst (v := (0 : Int32)) hx hb d_Ref_init_19 (by decide) ?_
  refine va_put (ci := 0) (C := nRf) (T := TR) (N := 12) hx hb hts uwR tR tR_ok nmR hown hK hP hD hS 0 rfl rfl 4 (by decide) (hts _ wt_488) (fun _ h9 => h9) rfl (ty := tR 4) rfl rfl rfl (Nat.le_of_ble_eq_true rfl) d_Ref_init_20 (fun H locs hP hD hS => ?_)
  exact W.vret hx hb hr (fun t ht hW => ⟨⟨(r, cA), rfl, trivial, by rw [show t.heap = H from ht]; exact hP, va_K.moved hW.alike hK, hD⟩, hS.F ht⟩) hS.2.2 d_Ref_init_23
theorem sj_0 (r : Nat) : SJ r 0 0 (rf_ 0 0 r 1 0 0 0 0 0 0 0 0) (fun _ => 0) :=
  ⟨1, 0, 0, 0, 0, 0, 0, 0, 0, 0, rfl, Or.inl rfl, fun j hj => by rw [Nat.zero_div]; rfl, ⟨1, 0, rfl, rfl, by decide, by decide, by decide, by decide⟩⟩
