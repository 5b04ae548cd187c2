/-! WHAT THE START GIVES: the constants, the texts, what isn't castable -/
abbrev gl_ : List Cond := flatC (Jvm.Cond.and given_1 narrow_1)
theorem gl_to : ∀ j, j < 25 → Cond.eq (.elem (.static nKd "CONVERTED_TO" "[I") (.int (Int32.ofNat j))) (.int (tb_to.getD j 0)) ∈ gl_ := by decide +kernel
theorem gl_from : ∀ j, j < 25 → Cond.eq (.elem (.static nKd "CONVERTED_FROM" "[I") (.int (Int32.ofNat j))) (.int (tb_from.getD j 0)) ∈ gl_ := by decide +kernel
theorem gl_f : ∀ q ∈ fmF, ∀ i, i < 2 → Cond.eq (.field (.static nFm (["OF_32", "OF_64"].getD i "") "LBitArithmetic$Form;") q.1 q.2.1 q.2.2.1) (.int (q.2.2.2.getD i 0)) ∈ gl_ := by decide +kernel
theorem gl_s : ∀ i, i < 2 → Cond.eq (.field (.static nFm (["OF_32", "OF_64"].getD i "") "LBitArithmetic$Form;") nFm "signBit" "J") (.long (fm_s i)) ∈ gl_ := by decide +kernel
theorem gl_i : ∀ i, i < 2 → Cond.eq (.field (.static nFm (["OF_32", "OF_64"].getD i "") "LBitArithmetic$Form;") nFm "infinity" "J") (.long (fm_i i)) ∈ gl_ := by decide +kernel
theorem gl_n : ∀ i, i < 2 → Cond.eq (.field (.static nFm (["OF_32", "OF_64"].getD i "") "LBitArithmetic$Form;") nFm "noNumber" "J") (.long (fm_n i)) ∈ gl_ := by decide +kernel
theorem gl_x : ∀ i, i < 2 → Cond.exactly (.static nFm (["OF_32", "OF_64"].getD i "") "LBitArithmetic$Form;") nFm ∈ gl_ := by decide +kernel
theorem lw_bt {args : Array Value} {s : State} (hts : ∀ w ∈ lw_tbl, w.before args s = true) : ∀ w ∈ BT, w.before args s = true := fun w h => hts w (bt_in h)
theorem txt_ {args : Array Value} {s : State} {own tx : String} {k : Nat} (hr : (Cond.stringRef own k tx).before args s = true) (hx : (Cond.exactly (.string own k) "java/lang/String").before args s = true) : ∃ a : Nat, vk_R own k tx a s := by
  obtain ⟨a, c, cell, kk, h1, -⟩ := Cond.exactly_spec hx
  exact ⟨a, vk_R.of hr h1⟩
set_option maxHeartbeats 4000000 in
theorem start_ {args : Array Value} {s : State} (hts : ∀ w ∈ lw_tbl, w.before args s = true) (hgv : (Jvm.Cond.and given_1 narrow_1).before args s = true) : ∃ ad : Nat → Nat, FW (fun q => s.heap.size ≤ q) ad s s.heap ∧ NW ad s ∧ CW s := by
  have hs := flat_of_before _ hgv
  have hb := lw_bt hts
  have hA : ∀ a : Nat, a < s.heap.size → ¬ (fun q : Nat => s.heap.size ≤ q) a := fun a h => Nat.not_le.mpr h
  obtain ⟨ad0, hEn, hev⟩ := va_Enof2 (args := args) (s := s) (E := nFm) (d := "LBitArithmetic$Form;") (nm := ["OF_32", "OF_64"]) (F := fmF) (A := fun q => s.heap.size ≤ q)
    (fun i hi => by
      rcases (show i = 0 ∨ i = 1 by simp at hi; omega) with rfl | rfl
      · exact hts _ wl_194
      · exact hts _ wl_226)
    (hb _ wt_44) (fun i hi => hs _ (gl_x i (by simpa using hi))) (fun q hq i hi => hs _ (gl_f q hq i (by simpa using hi)))
    (fun i j hi hj hne => by
      rcases (show i = 0 ∧ j = 1 ∨ i = 1 ∧ j = 0 by simp at hi hj; omega) with ⟨rfl, rfl⟩ | ⟨rfl, rfl⟩
      · exact Or.inl (hs _ (by decide +kernel))
      · exact Or.inr (hs _ (by decide +kernel)))
    hA
  obtain ⟨t2, e2, hT2⟩ := va_Tof (args := args) (s := s) (tm := .static nKd "CONVERTED_FROM" "[I") (ty := .int) (N := 25) (f := fun j => .int (tb_from.getD j 0)) (A := fun q => s.heap.size ≤ q) (by decide) (hs _ (by decide +kernel)) (va_eqv (u := .int 25) (hs _ (by decide +kernel)) rfl) (fun j hj => va_eqv (hs _ (gl_from j hj)) rfl) hA
  obtain ⟨t3, e3, hT3⟩ := va_Tof (args := args) (s := s) (tm := .static nKd "CONVERTED_TO" "[I") (ty := .int) (N := 25) (f := fun j => .int (tb_to.getD j 0)) (A := fun q => s.heap.size ≤ q) (by decide) (hs _ (by decide +kernel)) (va_eqv (u := .int 25) (hs _ (by decide +kernel)) rfl) (fun j hj => va_eqv (hs _ (gl_to j hj)) rfl) hA
  obtain ⟨t4, h4⟩ := txt_ (hts _ wl_163) (hs _ (by decide +kernel))
  obtain ⟨t5, h5⟩ := txt_ (hts _ wl_277) (hs _ (by decide +kernel))
  obtain ⟨t6, h6⟩ := txt_ (hts _ wl_308) (hs _ (by decide +kernel))
  obtain ⟨t7, h7⟩ := txt_ (hts _ wl_354) (hs _ (by decide +kernel))
  obtain ⟨t8, h8⟩ := txt_ (hts _ wl_363) (hs _ (by decide +kernel))
  obtain ⟨ad, a0, a1, a2, a3, a4, a5, a6, a7, a8⟩ : ∃ ad : Nat → Nat, ad 0 = ad0 0 ∧ ad 1 = ad0 1 ∧ ad 2 = t2 ∧ ad 3 = t3 ∧ ad 4 = t4 ∧ ad 5 = t5 ∧ ad 6 = t6 ∧ ad 7 = t7 ∧ ad 8 = t8 :=
    ⟨fun k => [ad0 0, ad0 1, t2, t3, t4, t5, t6, t7, t8].getD k 0, rfl, rfl, rfl, rfl, rfl, rfl, rfl, rfl, rfl⟩
  have had : ∀ i, i < 2 → ad i = ad0 i := fun i hi => by rcases (show i = 0 ∨ i = 1 by omega) with rfl | rfl; exact a0; exact a1
  have hev' : ∀ i, i < 2 → (Term.static nFm (["OF_32", "OF_64"].getD i "") "LBitArithmetic$Form;").eval args s none [] s = some (.ref (ad i)) := fun i hi => by rw [had i hi]; exact hev i (by simpa using hi)
  refine ⟨ad, ⟨⟨fun i hi => ?_, fun i j hi hj h => ?_⟩, va_Efof hev' (fun i hi => hs _ (gl_s i hi)) (fun i _ => rfl) hA, va_Efof hev' (fun i hi => hs _ (gl_i i hi)) (fun i _ => rfl) hA, va_Efof hev' (fun i hi => hs _ (gl_n i hi)) (fun i _ => rfl) hA, ⟨?_, ?_⟩, ⟨?_, ?_⟩, ?_, ?_⟩, ?_, ?_⟩
  · rw [had i (by simpa using hi)]; exact hEn.1 i hi
  · rw [had i (by simpa using hi), had j (by simpa using hj)] at h; exact hEn.2 i j hi hj h
  · rw [a2]; exact va_Zof (hts _ wl_91) (hb _ wt_55) e2 hA
  · rw [a2]; exact hT2
  · rw [a3]; exact va_Zof (hts _ wl_83) (hb _ wt_55) e3 hA
  · rw [a3]; exact hT3
  · exact vx_Zqof (hts _ wl_148) (hb _ wt_38) (hs _ (by decide +kernel)) hA
  · exact vx_Zqof (hts _ wl_150) (hb _ wt_38) (hs _ (by decide +kernel)) hA
  · refine ⟨va_Nw.of rfl (hts _ wl_125), va_Nw.of rfl (hts _ wl_127), va_Nw.of rfl (hts _ wl_129), va_Nw.of rfl (hts _ wl_123), va_Nw.of rfl (hts _ wl_347), va_Nw.of rfl (hts _ wl_301), va_Nw.of rfl (hts _ wl_270), ?_, ?_, ?_, ?_, ?_⟩
    · rw [a4]; exact h4
    · rw [a5]; exact h5
    · rw [a6]; exact h6
    · rw [a7]; exact h7
    · rw [a8]; exact h8
  · exact ⟨va_Nc.of (hs _ (by decide +kernel)), va_Nc.of (hs _ (by decide +kernel)), va_Nc.of (hs _ (by decide +kernel)), va_Nc.of (hs _ (by decide +kernel)), va_Nc.of (hs _ (by decide +kernel)), va_Nc.of (hs _ (by decide +kernel))⟩
