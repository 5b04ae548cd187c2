set_option maxHeartbeats 4000000 in
set_option maxRecDepth 100000 in
/-- THE LAW, from its entry -/
theorem whole_start {p : Program} {e : Env} {s : State} {m : MethodId} {below : List Frame} {meth : Method} {c : Code} (l : Launch) (hlt : l.stackTraces = false) {b L : Nat} {xs : Nat → Int32} (hL : L ≤ 3072) (C0 : lw_At p s m meth c b L xs) : W p l e room_1 s m #[Value.ref b] below meth c s.heap [] 0 0 (lw_Z below #[Value.ref b] s) (entryFrame m ([Value.ref b] : List Value).toArray 8) := by
  obtain ⟨hx, hb, hr, hml, hown, hts, hX, hbl, hlocks, hgv⟩ := id C0
  obtain ⟨ad, hF, hN, hC⟩ := start_ hts hgv
  have hB := lw_bt hts
  have hq : FX p s m #[Value.ref b] c (fun q => s.heap.size ≤ q) ad b_Law 8 nLw := ⟨hx, hb, hml, hown, hB, hF⟩
  have hA : ∀ q : Nat, s.heap.size ≤ q → (fun q : Nat => s.heap.size ≤ q) q := fun _ h => h
  obtain ⟨c0, iS0, hKn0⟩ := u_known (C := nRf) (T := TR) (N := 12) (n := 12) hB uwR (hB _ wt_479)
  obtain ⟨c1, iS1, hKn1⟩ := u_known (C := nMn) (T := TM) (N := 1) (n := 1) hB uwM (hB _ wt_57)
  obtain ⟨D, hKc⟩ : ∃ D : va_G, ∀ (k : Nat) (q : vw_C), clR[k]? = some q → u_Kn s q.1 q.2.1 q.2.2 (D.1 k) (D.2 k) := by
    refine ⟨(fun k => if k = 0 then c0 else c1, fun k => if k = 0 then iS0 else iS1), ?_⟩
    intro k q hq
    match k, hq with
    | 0, hq => cases hq; exact hKn0
    | 1, hq => cases hq; exact hKn1
    | k + 2, hq => simp [clR] at hq
  have hS : va_S (fun q : Nat => s.heap.size ≤ q) s.heap s.heap [] := va_S.rf
  have hK : va_K D clR [] s := ⟨hKc, fun k q h => by simp at h⟩
  have hP : va_P D clR [] s.heap := fun k q h => by simp at h
  have hD : va_D (fun q : Nat => s.heap.size ≤ q) [] := ⟨fun i j p q h => by simp at h, fun k q h => by simp at h⟩
  have hl := lv_entry ([.ref b]) (n := 8) (Nat.le_of_ble_eq_true rfl)
  rw [lg_entry_eq]
  generalize (lg_sl ([.ref b]) ++ List.replicate (8 - (lg_sl ([.ref b])).length) Slot.unset).toArray = ls at hl ⊢
  have hl : lv_has ls 8 [(0, .ref b)] := hl
  refine va_new (ci := 1) (fs := [.long 0]) (C := nMn) (T := TM) (N := 1) hx hb hB uwM tM tM_ok hown (hB _ wt_56) (hB _ wt_57) (hB _ wt_35) hK hP hD hS hA rfl (fun j hj => by rcases (show j = 0 by omega) with rfl; rfl) (Nat.le_of_ble_eq_true rfl) (Nat.le_of_ble_eq_true rfl) d_Law_0 (fun x H hP hD hS => ?_)
  have hP : va_P D clR (mw_ x 0) H := hP
  have hAx : s.heap.size ≤ x := hD.2 0 _ rfl
  refine lv_dup hx hb d_Law_3 rfl ?_
  refine va_callv (va_runI (As := []) (rest := [.ref x]) (fx_cf hq) (c_Main_init l D x 0) ⟨bt_cb (R := room_1) (n := 0) hq wt_60 wt_35 (by decide +kernel) wt_58 ⟨Nat.le_of_ble_eq_true rfl, Nat.le_of_ble_eq_true rfl⟩, rfl, hB _ wt_59⟩ ⟨fun a U g mk q => ⟨q.1, q.2.1, va_K.moved (u := U) (U := U.calling g mk a) (Vm.Alike.refl U.vm) q.2.2⟩, fun U hU hW => ⟨rfl, by rw [hU]; exact hP, va_K.moved hW.alike hK⟩⟩ rfl rfl hl.1 rfl (lv_room (Nat.le_of_ble_eq_true rfl)) d_Law_4 ⟨Nat.le_of_ble_eq_true rfl, Nat.le_of_ble_eq_true rfl⟩) hS (fun q _ h => by cases h; exact hAx) (fun q h => by cases h; exact hAx) (fun u t H1 locs ht hvm hw hB1 hz1 hk1 hS => ?_)
  have hP : va_P D clR (mw_ x 0) H1 := by rw [← ht]; exact hB1
  have hD : va_D (fun q : Nat => s.heap.size ≤ q) (mw_ x 0) := mw_D hAx
  refine lv_astore_n (lv' := [(1, .ref x), (0, .ref b)]) hx hb d_Law_7 rfl hl (by decide) rfl (fun ls hl => ?_)
  refine va_new (ci := 0) (fs := rz0_) (C := nRf) (T := TR) (N := 12) hx hb hB uwR tR tR_ok hown (hB _ wt_478) (hB _ wt_479) (hB _ wt_36) hK hP hD hS hA rfl (fun j hj => by rcases (show j = 0 ∨ j = 1 ∨ j = 2 ∨ j = 3 ∨ j = 4 ∨ j = 5 ∨ j = 6 ∨ j = 7 ∨ j = 8 ∨ j = 9 ∨ j = 10 ∨ j = 11 by omega) with rfl | rfl | rfl | rfl | rfl | rfl | rfl | rfl | rfl | rfl | rfl | rfl <;> rfl) (Nat.le_of_ble_eq_true rfl) (Nat.le_of_ble_eq_true rfl) d_Law_8 (fun o H hP hD hS => ?_)
  have hPo : va_P D clR [(o, .inr (0, rz0_))] H := hP.sub [1] rfl
  have hAo : s.heap.size ≤ o := hD.2 1 _ rfl
  have hxo : x ≠ o := fun z => by have := hD.1 0 1 _ _ rfl rfl z; omega
  have hxl : x < H.size := (hP 0 _ rfl).lt
  have hol : o < H.size := (hP 1 _ rfl).lt
  refine lv_dup hx hb d_Law_11 rfl ?_
  refine va_callv (va_runI (As := []) (rest := [.ref o]) (fx_cf hq) (c_Ref_init l D o H.size) ⟨bt_cb (R := room_1) (n := 0) hq wt_482 wt_36 (by decide +kernel) wt_480 ⟨Nat.le_of_ble_eq_true rfl, Nat.le_of_ble_eq_true rfl⟩, rfl, hB _ wt_481⟩ ⟨fun a U g mk q => ⟨q.1, q.2.1, q.2.2.1, va_K.moved (u := U) (U := U.calling g mk a) (Vm.Alike.refl U.vm) q.2.2.2⟩, fun U hU hW => ⟨rfl, by rw [hU], by rw [hU]; exact hPo, va_K.moved hW.alike hK⟩⟩ rfl rfl hl.1 rfl (lv_room (Nat.le_of_ble_eq_true rfl)) d_Law_12 ⟨Nat.le_of_ble_eq_true rfl, Nat.le_of_ble_eq_true rfl⟩) hS (fun q _ h => by rcases h with rfl | h; exact hAo; exact Nat.le_trans hS.1 h) (fun q h => by rcases h with rfl | h; exact hAo; exact Nat.le_trans hS.1 h) (fun u t H1 locs ht hvm hw hB1 hz1 hk1 hS9 => ?_)
  obtain ⟨r, cB⟩ := u
  obtain ⟨hP1, hK1, hD1⟩ := hB1
  rw [ht] at hP1
  have hK := va_K.moved hvm.symm hK1
  have hor : o ≠ r := fun z => by have := hD1.1 0 1 _ _ rfl rfl z; omega
  have hrl : H.size ≤ r := by
    rcases hD1.2 1 _ rfl with h | h
    · exact absurd h.symm hor
    · exact h
  have hAr : s.heap.size ≤ r := Nat.le_trans hS.1 hrl
  have hxr : x ≠ r := by omega
  have hPx : va_P D clR (mw_ x 0) H1 := (hP.sub (ws' := mw_ x 0) [0] rfl).kept (fun k q hk => by
    match k, hk with
    | 0, hk => cases hk; exact hk1 x hxl (fun z => by rcases z with z | z; exact hxo z; omega)
    | k + 1, hk => simp at hk)
  have hP : va_P D clR [(x, .inr (1, [.long 0])), (o, .inr (0, rf_ 0 0 r 1 0 0 0 0 0 0 0 0)), (r, .inl (cB, 4400, .inl (fun _ => 0)))] H1 := hPx.app hP1
  have hD : va_D (fun q : Nat => s.heap.size ≤ q) [(x, .inr (1, [.long 0])), (o, .inr (0, rf_ 0 0 r 1 0 0 0 0 0 0 0 0)), (r, .inl (cB, 4400, .inl (fun _ => 0)))] := by
    refine ⟨fun i j p q hi hj e9 => ?_, fun k q hk => ?_⟩
    · match i, j, hi, hj with
      | 0, 0, _, _ => rfl
      | 1, 1, _, _ => rfl
      | 2, 2, _, _ => rfl
      | 0, 1, hi, hj => cases hi; cases hj; exact absurd e9 hxo
      | 1, 0, hi, hj => cases hi; cases hj; exact absurd e9.symm hxo
      | 0, 2, hi, hj => cases hi; cases hj; exact absurd e9 hxr
      | 2, 0, hi, hj => cases hi; cases hj; exact absurd e9.symm hxr
      | 1, 2, hi, hj => cases hi; cases hj; exact absurd e9 hor
      | 2, 1, hi, hj => cases hi; cases hj; exact absurd e9.symm hor
      | i + 3, _, hi, _ => simp at hi
      | _, j + 3, _, hj => simp at hj
    · match k, hk with
      | 0, hk => cases hk; exact hAx
      | 1, hk => cases hk; exact hAo
      | 2, hk => cases hk; exact hAr
      | k + 3, hk => simp at hk
  refine lv_astore_n (lv' := [(2, .ref o), (1, .ref x), (0, .ref b)]) hx hb d_Law_15 rfl hl (by decide) rfl (fun ls hl => ?_)
  refine lv_iconst (v := (1 : Int32)) hx hb d_Law_16 (by decide) ?_
  refine va_newa (a0 := (1, .inr (.inl (fun _ => 0)))) (atype := .long) (ty := .long) hx hb (hB _ wt_720) rfl hK hP hD hS9 hA (fun cA => rfl) (by decide) (by decide) (by decide) (Nat.le_of_ble_eq_true rfl) (Nat.le_of_ble_eq_true rfl) d_Law_17 (fun w cJ H hK hP hD hS => ?_)
  refine lv_astore_n (lv' := [(3, .ref w), (2, .ref o), (1, .ref x), (0, .ref b)]) hx hb d_Law_19 rfl hl (by decide) rfl (fun ls hl => ?_)
  refine lv_iconst (v := (0 : Int32)) hx hb d_Law_20 (by decide) ?_
  refine lv_istore (lv' := [(4, .int (nI (6 * 0))), (3, .ref w), (2, .ref o), (1, .ref x), (0, .ref b)]) hx hb d_Law_21 hl (by decide) rfl (fun ls hl => ?_)
  have hAw : s.heap.size ≤ w := hD.2 3 _ rfl
  have hd : n4_ x w o r := ⟨fun z => by have := hD.1 0 3 _ _ rfl rfl z; omega, hxo, hxr, fun z => by have := hD.1 3 1 _ _ rfl rfl z; omega, fun z => by have := hD.1 3 2 _ _ rfl rfl z; omega, hor⟩
  exact law_loop l hlt hq hN hC hK ⟨hAx, hAw, hAo, hAr⟩ hd hX hbl hL hr hlocks L 0 (by omega) (by omega) 0 0 _ _ (fun _ => 0) H _ ls (sj_0 r) (hP.sub [0, 3, 1, 2] rfl) hS (lv_sub hl [0, 4, 3, 2, 1] rfl)
