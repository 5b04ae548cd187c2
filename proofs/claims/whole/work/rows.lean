section
-- ===== PART A: goes FIRST, ahead of the names: the tables' words, and 'selects' of the private methods out of them =====
/-- a private method of a class that the tables say can be made, by its rows of tables_1 -/
def lw_okq (q : MethodName × Nat) : Prop := (q.1.cls ≠ "java/lang/invoke/MethodHandle" ∧ q.1.cls ≠ "java/lang/invoke/VarHandle") ∧ Cond.instantiable q.1.cls q.2 ∈ tables_1 ∧ Cond.privateMethod q.1 ∈ tables_1 ∧ Cond.instanceMethod q.1 ∈ tables_1
theorem lw_p0 : lw_okq (⟨"java/lang/Throwable", "fillInStackTrace", "(I)Ljava/lang/Throwable;"⟩, 6) := ⟨⟨by decide +kernel, by decide +kernel⟩, List.mem_of_getElem? (i := 127) (by decide +kernel), List.mem_of_getElem? (i := 125) (by decide +kernel), List.mem_of_getElem? (i := 126) (by decide +kernel)⟩
theorem lw_p1 : lw_okq (⟨"BitArithmeticModel", "answer", "(IJJ)J"⟩, 12) := ⟨⟨by decide +kernel, by decide +kernel⟩, List.mem_of_getElem? (i := 446) (by decide +kernel), List.mem_of_getElem? (i := 518) (by decide +kernel), List.mem_of_getElem? (i := 519) (by decide +kernel)⟩
theorem lw_p2 : lw_okq (⟨"BitArithmeticModel", "turnedInto", "(IJ)J"⟩, 12) := ⟨⟨by decide +kernel, by decide +kernel⟩, List.mem_of_getElem? (i := 446) (by decide +kernel), List.mem_of_getElem? (i := 522) (by decide +kernel), List.mem_of_getElem? (i := 523) (by decide +kernel)⟩
theorem lw_p3 : lw_okq (⟨"BitArithmeticModel", "format", "(I)V"⟩, 12) := ⟨⟨by decide +kernel, by decide +kernel⟩, List.mem_of_getElem? (i := 446) (by decide +kernel), List.mem_of_getElem? (i := 526) (by decide +kernel), List.mem_of_getElem? (i := 527) (by decide +kernel)⟩
theorem lw_p4 : lw_okq (⟨"BitArithmeticModel", "cut", "(JIZ)J"⟩, 12) := ⟨⟨by decide +kernel, by decide +kernel⟩, List.mem_of_getElem? (i := 446) (by decide +kernel), List.mem_of_getElem? (i := 530) (by decide +kernel), List.mem_of_getElem? (i := 531) (by decide +kernel)⟩
theorem lw_p5 : lw_okq (⟨"BitArithmeticModel", "isNone", "(J)Z"⟩, 12) := ⟨⟨by decide +kernel, by decide +kernel⟩, List.mem_of_getElem? (i := 446) (by decide +kernel), List.mem_of_getElem? (i := 534) (by decide +kernel), List.mem_of_getElem? (i := 535) (by decide +kernel)⟩
theorem lw_p6 : lw_okq (⟨"BitArithmeticModel", "size", "(J)J"⟩, 12) := ⟨⟨by decide +kernel, by decide +kernel⟩, List.mem_of_getElem? (i := 446) (by decide +kernel), List.mem_of_getElem? (i := 538) (by decide +kernel), List.mem_of_getElem? (i := 539) (by decide +kernel)⟩
theorem lw_p7 : lw_okq (⟨"BitArithmeticModel", "infinite", "(Z)J"⟩, 12) := ⟨⟨by decide +kernel, by decide +kernel⟩, List.mem_of_getElem? (i := 446) (by decide +kernel), List.mem_of_getElem? (i := 542) (by decide +kernel), List.mem_of_getElem? (i := 543) (by decide +kernel)⟩
theorem lw_p8 : lw_okq (⟨"BitArithmeticModel", "signed", "(JZ)J"⟩, 12) := ⟨⟨by decide +kernel, by decide +kernel⟩, List.mem_of_getElem? (i := 446) (by decide +kernel), List.mem_of_getElem? (i := 547) (by decide +kernel), List.mem_of_getElem? (i := 548) (by decide +kernel)⟩
theorem lw_p9 : lw_okq (⟨"BitArithmeticModel", "isInfinite", "(J)Z"⟩, 12) := ⟨⟨by decide +kernel, by decide +kernel⟩, List.mem_of_getElem? (i := 446) (by decide +kernel), List.mem_of_getElem? (i := 551) (by decide +kernel), List.mem_of_getElem? (i := 552) (by decide +kernel)⟩
theorem lw_p10 : lw_okq (⟨"BitArithmeticModel", "split", "(J)V"⟩, 12) := ⟨⟨by decide +kernel, by decide +kernel⟩, List.mem_of_getElem? (i := 446) (by decide +kernel), List.mem_of_getElem? (i := 555) (by decide +kernel), List.mem_of_getElem? (i := 556) (by decide +kernel)⟩
theorem lw_p11 : lw_okq (⟨"BitArithmeticModel", "isMinus", "(J)Z"⟩, 12) := ⟨⟨by decide +kernel, by decide +kernel⟩, List.mem_of_getElem? (i := 446) (by decide +kernel), List.mem_of_getElem? (i := 559) (by decide +kernel), List.mem_of_getElem? (i := 560) (by decide +kernel)⟩
theorem lw_p12 : lw_okq (⟨"BitArithmeticModel", "floating", "(JZ)J"⟩, 12) := ⟨⟨by decide +kernel, by decide +kernel⟩, List.mem_of_getElem? (i := 446) (by decide +kernel), List.mem_of_getElem? (i := 571) (by decide +kernel), List.mem_of_getElem? (i := 572) (by decide +kernel)⟩
theorem lw_p13 : lw_okq (⟨"BitArithmeticModel", "clear", "()V"⟩, 12) := ⟨⟨by decide +kernel, by decide +kernel⟩, List.mem_of_getElem? (i := 446) (by decide +kernel), List.mem_of_getElem? (i := 575) (by decide +kernel), List.mem_of_getElem? (i := 576) (by decide +kernel)⟩
theorem lw_p14 : lw_okq (⟨"BitArithmeticModel", "add", "(JI)V"⟩, 12) := ⟨⟨by decide +kernel, by decide +kernel⟩, List.mem_of_getElem? (i := 446) (by decide +kernel), List.mem_of_getElem? (i := 579) (by decide +kernel), List.mem_of_getElem? (i := 580) (by decide +kernel)⟩
theorem lw_p15 : lw_okq (⟨"BitArithmeticModel", "reach", "(II)V"⟩, 12) := ⟨⟨by decide +kernel, by decide +kernel⟩, List.mem_of_getElem? (i := 446) (by decide +kernel), List.mem_of_getElem? (i := 583) (by decide +kernel), List.mem_of_getElem? (i := 584) (by decide +kernel)⟩
def lw_privs_1 : List (MethodName × Nat) := [(⟨"java/lang/Throwable", "fillInStackTrace", "(I)Ljava/lang/Throwable;"⟩, 6), (⟨"BitArithmeticModel", "answer", "(IJJ)J"⟩, 12), (⟨"BitArithmeticModel", "turnedInto", "(IJ)J"⟩, 12), (⟨"BitArithmeticModel", "format", "(I)V"⟩, 12), (⟨"BitArithmeticModel", "cut", "(JIZ)J"⟩, 12), (⟨"BitArithmeticModel", "isNone", "(J)Z"⟩, 12), (⟨"BitArithmeticModel", "size", "(J)J"⟩, 12), (⟨"BitArithmeticModel", "infinite", "(Z)J"⟩, 12), (⟨"BitArithmeticModel", "signed", "(JZ)J"⟩, 12), (⟨"BitArithmeticModel", "isInfinite", "(J)Z"⟩, 12), (⟨"BitArithmeticModel", "split", "(J)V"⟩, 12), (⟨"BitArithmeticModel", "isMinus", "(J)Z"⟩, 12), (⟨"BitArithmeticModel", "floating", "(JZ)J"⟩, 12), (⟨"BitArithmeticModel", "clear", "()V"⟩, 12), (⟨"BitArithmeticModel", "add", "(JI)V"⟩, 12), (⟨"BitArithmeticModel", "reach", "(II)V"⟩, 12)]
theorem lw_r1 : ∀ q ∈ lw_privs_1, lw_okq q := List.forall_mem_cons.mpr ⟨lw_p0, List.forall_mem_cons.mpr ⟨lw_p1, List.forall_mem_cons.mpr ⟨lw_p2, List.forall_mem_cons.mpr ⟨lw_p3, List.forall_mem_cons.mpr ⟨lw_p4, List.forall_mem_cons.mpr ⟨lw_p5, List.forall_mem_cons.mpr ⟨lw_p6, List.forall_mem_cons.mpr ⟨lw_p7, List.forall_mem_cons.mpr ⟨lw_p8, List.forall_mem_cons.mpr ⟨lw_p9, List.forall_mem_cons.mpr ⟨lw_p10, List.forall_mem_cons.mpr ⟨lw_p11, List.forall_mem_cons.mpr ⟨lw_p12, List.forall_mem_cons.mpr ⟨lw_p13, List.forall_mem_cons.mpr ⟨lw_p14, List.forall_mem_cons.mpr ⟨lw_p15, fun _ h => absurd h List.not_mem_nil⟩⟩⟩⟩⟩⟩⟩⟩⟩⟩⟩⟩⟩⟩⟩⟩
theorem lw_p16 : lw_okq (⟨"BitArithmeticModel", "rounded", "(Z)J"⟩, 12) := ⟨⟨by decide +kernel, by decide +kernel⟩, List.mem_of_getElem? (i := 446) (by decide +kernel), List.mem_of_getElem? (i := 587) (by decide +kernel), List.mem_of_getElem? (i := 588) (by decide +kernel)⟩
theorem lw_p17 : lw_okq (⟨"BitArithmeticModel", "highest", "()I"⟩, 12) := ⟨⟨by decide +kernel, by decide +kernel⟩, List.mem_of_getElem? (i := 446) (by decide +kernel), List.mem_of_getElem? (i := 591) (by decide +kernel), List.mem_of_getElem? (i := 592) (by decide +kernel)⟩
theorem lw_p18 : lw_okq (⟨"BitArithmeticModel", "isBelow", "(I)Z"⟩, 12) := ⟨⟨by decide +kernel, by decide +kernel⟩, List.mem_of_getElem? (i := 446) (by decide +kernel), List.mem_of_getElem? (i := 595) (by decide +kernel), List.mem_of_getElem? (i := 596) (by decide +kernel)⟩
theorem lw_p19 : lw_okq (⟨"BitArithmeticModel", "reformed", "(JI)J"⟩, 12) := ⟨⟨by decide +kernel, by decide +kernel⟩, List.mem_of_getElem? (i := 446) (by decide +kernel), List.mem_of_getElem? (i := 599) (by decide +kernel), List.mem_of_getElem? (i := 600) (by decide +kernel)⟩
theorem lw_p20 : lw_okq (⟨"BitArithmeticModel", "isZero", "(J)Z"⟩, 12) := ⟨⟨by decide +kernel, by decide +kernel⟩, List.mem_of_getElem? (i := 446) (by decide +kernel), List.mem_of_getElem? (i := 603) (by decide +kernel), List.mem_of_getElem? (i := 604) (by decide +kernel)⟩
theorem lw_p21 : lw_okq (⟨"BitArithmeticModel", "noNumber", "()J"⟩, 12) := ⟨⟨by decide +kernel, by decide +kernel⟩, List.mem_of_getElem? (i := 446) (by decide +kernel), List.mem_of_getElem? (i := 607) (by decide +kernel), List.mem_of_getElem? (i := 608) (by decide +kernel)⟩
theorem lw_p22 : lw_okq (⟨"BitArithmeticModel", "floated", "(IJJ)J"⟩, 12) := ⟨⟨by decide +kernel, by decide +kernel⟩, List.mem_of_getElem? (i := 446) (by decide +kernel), List.mem_of_getElem? (i := 613) (by decide +kernel), List.mem_of_getElem? (i := 614) (by decide +kernel)⟩
theorem lw_p23 : lw_okq (⟨"BitArithmeticModel", "whole", "(IJ)J"⟩, 12) := ⟨⟨by decide +kernel, by decide +kernel⟩, List.mem_of_getElem? (i := 446) (by decide +kernel), List.mem_of_getElem? (i := 617) (by decide +kernel), List.mem_of_getElem? (i := 618) (by decide +kernel)⟩
theorem lw_p24 : lw_okq (⟨"BitArithmeticModel", "root", "(J)J"⟩, 12) := ⟨⟨by decide +kernel, by decide +kernel⟩, List.mem_of_getElem? (i := 446) (by decide +kernel), List.mem_of_getElem? (i := 621) (by decide +kernel), List.mem_of_getElem? (i := 622) (by decide +kernel)⟩
theorem lw_p25 : lw_okq (⟨"BitArithmeticModel", "sum", "(JJ)J"⟩, 12) := ⟨⟨by decide +kernel, by decide +kernel⟩, List.mem_of_getElem? (i := 446) (by decide +kernel), List.mem_of_getElem? (i := 627) (by decide +kernel), List.mem_of_getElem? (i := 628) (by decide +kernel)⟩
theorem lw_p26 : lw_okq (⟨"BitArithmeticModel", "take", "(JI)V"⟩, 12) := ⟨⟨by decide +kernel, by decide +kernel⟩, List.mem_of_getElem? (i := 446) (by decide +kernel), List.mem_of_getElem? (i := 631) (by decide +kernel), List.mem_of_getElem? (i := 632) (by decide +kernel)⟩
theorem lw_p27 : lw_okq (⟨"BitArithmeticModel", "product", "(JJ)J"⟩, 12) := ⟨⟨by decide +kernel, by decide +kernel⟩, List.mem_of_getElem? (i := 446) (by decide +kernel), List.mem_of_getElem? (i := 635) (by decide +kernel), List.mem_of_getElem? (i := 636) (by decide +kernel)⟩
theorem lw_p28 : lw_okq (⟨"BitArithmeticModel", "quotient", "(JJ)J"⟩, 12) := ⟨⟨by decide +kernel, by decide +kernel⟩, List.mem_of_getElem? (i := 446) (by decide +kernel), List.mem_of_getElem? (i := 639) (by decide +kernel), List.mem_of_getElem? (i := 640) (by decide +kernel)⟩
theorem lw_p29 : lw_okq (⟨"BitArithmeticModel", "lesser", "(ZJJ)J"⟩, 12) := ⟨⟨by decide +kernel, by decide +kernel⟩, List.mem_of_getElem? (i := 446) (by decide +kernel), List.mem_of_getElem? (i := 643) (by decide +kernel), List.mem_of_getElem? (i := 644) (by decide +kernel)⟩
theorem lw_p30 : lw_okq (⟨"BitArithmeticModel", "less", "(JZJ)Z"⟩, 12) := ⟨⟨by decide +kernel, by decide +kernel⟩, List.mem_of_getElem? (i := 446) (by decide +kernel), List.mem_of_getElem? (i := 647) (by decide +kernel), List.mem_of_getElem? (i := 648) (by decide +kernel)⟩
theorem lw_p31 : lw_okq (⟨"BitArithmeticModel", "reckoned", "(IIJJ)J"⟩, 12) := ⟨⟨by decide +kernel, by decide +kernel⟩, List.mem_of_getElem? (i := 446) (by decide +kernel), List.mem_of_getElem? (i := 651) (by decide +kernel), List.mem_of_getElem? (i := 652) (by decide +kernel)⟩
def lw_privs_2 : List (MethodName × Nat) := [(⟨"BitArithmeticModel", "rounded", "(Z)J"⟩, 12), (⟨"BitArithmeticModel", "highest", "()I"⟩, 12), (⟨"BitArithmeticModel", "isBelow", "(I)Z"⟩, 12), (⟨"BitArithmeticModel", "reformed", "(JI)J"⟩, 12), (⟨"BitArithmeticModel", "isZero", "(J)Z"⟩, 12), (⟨"BitArithmeticModel", "noNumber", "()J"⟩, 12), (⟨"BitArithmeticModel", "floated", "(IJJ)J"⟩, 12), (⟨"BitArithmeticModel", "whole", "(IJ)J"⟩, 12), (⟨"BitArithmeticModel", "root", "(J)J"⟩, 12), (⟨"BitArithmeticModel", "sum", "(JJ)J"⟩, 12), (⟨"BitArithmeticModel", "take", "(JI)V"⟩, 12), (⟨"BitArithmeticModel", "product", "(JJ)J"⟩, 12), (⟨"BitArithmeticModel", "quotient", "(JJ)J"⟩, 12), (⟨"BitArithmeticModel", "lesser", "(ZJJ)J"⟩, 12), (⟨"BitArithmeticModel", "less", "(JZJ)Z"⟩, 12), (⟨"BitArithmeticModel", "reckoned", "(IIJJ)J"⟩, 12)]
theorem lw_r2 : ∀ q ∈ lw_privs_2, lw_okq q := List.forall_mem_cons.mpr ⟨lw_p16, List.forall_mem_cons.mpr ⟨lw_p17, List.forall_mem_cons.mpr ⟨lw_p18, List.forall_mem_cons.mpr ⟨lw_p19, List.forall_mem_cons.mpr ⟨lw_p20, List.forall_mem_cons.mpr ⟨lw_p21, List.forall_mem_cons.mpr ⟨lw_p22, List.forall_mem_cons.mpr ⟨lw_p23, List.forall_mem_cons.mpr ⟨lw_p24, List.forall_mem_cons.mpr ⟨lw_p25, List.forall_mem_cons.mpr ⟨lw_p26, List.forall_mem_cons.mpr ⟨lw_p27, List.forall_mem_cons.mpr ⟨lw_p28, List.forall_mem_cons.mpr ⟨lw_p29, List.forall_mem_cons.mpr ⟨lw_p30, List.forall_mem_cons.mpr ⟨lw_p31, fun _ h => absurd h List.not_mem_nil⟩⟩⟩⟩⟩⟩⟩⟩⟩⟩⟩⟩⟩⟩⟩⟩
theorem lw_p32 : lw_okq (⟨"BitArithmeticModel", "byDivision", "(IIJJ)J"⟩, 12) := ⟨⟨by decide +kernel, by decide +kernel⟩, List.mem_of_getElem? (i := 446) (by decide +kernel), List.mem_of_getElem? (i := 658) (by decide +kernel), List.mem_of_getElem? (i := 659) (by decide +kernel)⟩
theorem lw_p33 : lw_okq (⟨"BitArithmeticModel", "compared", "(IJJ)Z"⟩, 12) := ⟨⟨by decide +kernel, by decide +kernel⟩, List.mem_of_getElem? (i := 446) (by decide +kernel), List.mem_of_getElem? (i := 671) (by decide +kernel), List.mem_of_getElem? (i := 672) (by decide +kernel)⟩
def lw_privs_3 : List (MethodName × Nat) := [(⟨"BitArithmeticModel", "byDivision", "(IIJJ)J"⟩, 12), (⟨"BitArithmeticModel", "compared", "(IJJ)Z"⟩, 12)]
theorem lw_r3 : ∀ q ∈ lw_privs_3, lw_okq q := List.forall_mem_cons.mpr ⟨lw_p32, List.forall_mem_cons.mpr ⟨lw_p33, fun _ h => absurd h List.not_mem_nil⟩⟩
def lw_privs : List (MethodName × Nat) := lw_privs_1 ++ (lw_privs_2 ++ (lw_privs_3))
def lw_tbl : List Cond := k2_sels lw_privs ++ tables_1
theorem lw_privs_ok : ∀ q ∈ lw_privs, lw_okq q := by
  show ∀ q ∈ lw_privs_1 ++ (lw_privs_2 ++ (lw_privs_3)), lw_okq q
  exact List.forall_mem_append.mpr ⟨lw_r1, List.forall_mem_append.mpr ⟨lw_r2, lw_r3⟩⟩
end
section
/-! ===== BEGIN words of one list among another's, by their places ===== -/
theorem goodIn_r {big : List Cond} (ws : List Cond) (ps : List Nat) (hp : ws = ps.filterMap (fun i => big[i]?)) (h : ws.all goodWord = true) : GoodIn big ws := by
  intro w hw
  have h1 := List.all_eq_true.mp h w hw
  rw [hp] at hw
  obtain ⟨i, -, hi⟩ := List.mem_filterMap.mp hw
  have hm : w ∈ big := by first | exact List.mem_of_getElem? hi | exact List.getElem?_mem hi
  exact ⟨hm, good_of_word h1⟩
theorem goodIn_app {big a b : List Cond} (ha : GoodIn big a) (hb : GoodIn big b) : GoodIn big (a ++ b) := fun w h => (List.mem_append.mp h).elim (ha w) (hb w)
theorem goodIn_ca {big a b : List Cond} {c : Cond} (ha : GoodIn big (c :: a)) (hb : GoodIn big b) : GoodIn big (c :: (a ++ b)) := fun w h => (List.mem_cons.mp h).elim (fun e => ha w (List.mem_cons.mpr (Or.inl e))) (fun h => (List.mem_append.mp h).elim (fun h => ha w (List.mem_cons.mpr (Or.inr h))) (hb w))
theorem goodIn_sub {big ws : List Cond} (hm : ∀ w ∈ ws, w ∈ big) (h : ws.all goodWord = true) : GoodIn big ws := fun w hw => ⟨hm w hw, good_of_word (List.all_eq_true.mp h w hw)⟩
/-! ===== END ===== -/

/-! ===== BEGIN exceptions that leave a method, and their catching by the caller (launches without stack traces) ===== -/
section VXA
/-! The laws vx_back, vx_callV, vx_callS, vx_callSW, vx_throw0, vx_throwS follow proofs of the library, with one case more: JvmDerived/Free/Laws.lean (Back.of_free), Shelf42/LK1.lean (callV, callS), Shelf/KitTraced.lean (throwNew0V, throwNewS). -/
/-- where a method has thrown q: the class by its name, the cell, what was written, the world -/
def vx_T (XC : String → State → State → Prop) (st : State) (q : Addr) (t : State) (mc ms : Nat) (free : Addr → Prop) : Prop :=
  ∃ (E : String) (ce : Cell) (L : List Loc), XC E st t ∧ t.heap[q]? = some ce ∧ ce.vm = .none ∧ st.vm.findClass E = some ce.cls ∧ st.WarmedH t.vm ∧ st.sameButNew ({ t with vm := st.vm } : State) L mc ms ∧ ∀ z ∈ L, free z.base
def vx_Q (Qc : Array Value → State → Outcome → State → Prop) (XC : String → State → State → Prop) (mc ms : Nat) (free : Addr → Prop) : Array Value → State → Outcome → State → Prop := fun a st o t =>
  (Qc a st o t ∧ ∃ L, FrameEnd st o t L mc ms ∧ ∀ q ∈ L, free q.base) ∨ ∃ q, o = .threw q ∧ vx_T XC st q t mc ms free
/-- a callee that returns or throws -/
def vx_Met (l : Launch) (y : MethodName) (ws : List Cond) (rm : Room) (Pc : Array Value → State → Prop) (Qc : Array Value → State → Outcome → State → Prop) (XC : String → State → State → Prop) (mc ms : Nat) (free : Addr → Prop) : Prop :=
  MetFree l y (headSpec ws rm) Pc (fun _ _ _ _ _ => True) (vx_Q Qc XC mc ms free)
def vx_Post (XC : String → State → State → Prop) (mc ms : Nat) (free : Addr → Prop) : Pt → Array Value → Addr → Pt → Prop := fun A a q B =>
  ∃ (g : JFrame) (mk : MethodId) (t : State) (L : List Loc) (E : String) (ce : Cell), B.U.heap = t.heap ∧ B.U.vm = t.vm ∧ XC E (A.U.calling g mk a) t ∧ t.heap[q]? = some ce ∧ ce.vm = .none ∧ A.U.vm.findClass E = some ce.cls ∧ B.locs = A.locs ++ L ∧ (∀ z ∈ L, free z.base) ∧ B.cells = A.cells + mc ∧ B.slots = A.slots + ms
def vx_Back (l : Launch) (R : Room) (p : Program) (e : Env) (below : List Frame) (s : State) (sargs : Array Value) (y : MethodName) (len W9 : Nat)
    (Pre : Pt → Array Value → Prop) (Post : Pt → Array Value → Option Value → Pt → Prop) (PostX : Pt → Array Value → Addr → Pt → Prop) : Prop :=
  ∀ (m : MethodId) (meth : Method) (c : Code) (A : Pt) (g : JFrame) (ig : Instr) (mk : MethodId) (a : Array Value),
    Stand p l e R s m sargs below meth c A.U A.locs A.cells A.slots → g.method = m → g.locals.size = c.maxLocals → decode c.code g.pc = .ok (ig, len) →
    2 * g.monitorRoom + (g.stack.map fun v => v.category).sum ≤ W9 → A.U.methodNamed? y = some mk → Pre A a →
    (∃ (v : Option Value) (B : Pt), Stand p l e R s m sargs below meth c B.U B.locs B.cells B.slots ∧ Post A a v B ∧
      Steps p.tables e below (doInvoke e (A.U.setTop g) [] mk a).1 (B.U.setTop { g with pc := g.pc + len, stack := v.toList ++ g.stack })) ∨
    (∃ (q : Addr) (B : Pt), Stand p l e R s m sargs below meth c B.U B.locs B.cells B.slots ∧ PostX A a q B ∧
      Steps p.tables e below (doInvoke e (A.U.setTop g) [] mk a).1 ((B.U.setTop g).pushFrame (.throwing q)))
section Payer
variable {l : Launch} {R : Room} {p : Program} {e : Env} {below : List Frame} {s : State} {sargs : Array Value} {y : MethodName} {len W9 : Nat}
theorem vx_back {ws : List Cond} {rm : Room} {Pc : Array Value → State → Prop} {Qc : Array Value → State → Outcome → State → Prop} {XC : String → State → State → Prop} {mc ms : Nat} {free : Addr → Prop} {bytes : ByteArray} {maxL : Nat} {ret : Option FieldType}
    (hM : vx_Met l y ws rm Pc Qc XC mc ms free) (hblind : FrameBlind Pc) (hrc : rm.cells = mc) (hrs : rm.slots = ms)
    (hframes : rm.frames + 1 ≤ R.frames) (hlocals : W9 + (maxL + 11) + rm.locals ≤ R.locals)
    (hws : ∀ w ∈ ws, ∀ a' U, s.WarmedH U.vm → w.before a' U = true) (hcode : Cond.code y bytes maxL ret ∈ ws) (hinit : ∀ a' U, s.WarmedH U.vm → (Cond.initialized y.cls).before a' U = true) :
    vx_Back l R p e below s sargs y len W9 (PreOf R mc ms Pc) (PostOf Qc mc ms free) (vx_Post XC mc ms free) := by
  intro m meth c A g ig mk a X hg hsize hdg hW hn hp
  have h1 : (headSpec ws rm).pre.before a A.U = true := atoms_intro fun w hw => hws w hw _ _ X.warmed
  have h2 : (Cond.code y bytes maxL ret).before a A.U = true := hws _ hcode _ _ X.warmed
  have h3 : (Cond.initialized y.cls).before a A.U = true := hinit _ _ X.warmed
  have h4 : A.cells + (headSpec ws rm).room.cells ≤ R.cells := by rw [show (headSpec ws rm).room.cells = mc from hrc]; exact hp.1
  have h5 : A.slots + (headSpec ws rm).room.slots ≤ R.slots := by rw [show (headSpec ws rm).room.slots = ms from hrs]; exact hp.2.1
  have hPc : Pc a (A.U.calling g mk a) := hblind _ _ _ _ hp.2.2
  obtain ⟨U, Ls, c0, s0⟩ := A
  dsimp only [Pt.U, Pt.locs, Pt.cells, Pt.slots] at h1 h2 h3 h4 h5 X hn hPc ⊢
  obtain ⟨methY, cY, hmY, hcY, -, hlY, -, -, -, -⟩ := Cond.code_spec hn h2
  obtain ⟨kY, hkY, -⟩ := className_of_methodNamed hn
  have hinitY : kY.init = .initialized := Cond.initialized_spec (findClass_of_methodNamed hn) hkY h3
  have h : At U g.method c below := by rw [hg]; exact X.here
  have hlocals9 : W9 + (maxL + 11) + (headSpec ws rm).room.locals ≤ R.locals := hlocals
  have happ : (headSpec ws rm).appliesLoose y e.platform (U.calling g mk a) = true :=
    Spec.appliesLoose_calling (g := g) h hdg hn hkY hinitY
      (X.room_calling (g := g) (R' := (headSpec ws rm).room) hsize hmY hcY hframes (by rw [hlY]; omega) h4 h5) h1
  obtain ⟨mid, hmid⟩ := h.above
  have hfr : (U.setTop g).frames = (.java g :: mid) ++ below := by rw [State.frames_setTop' g h.top, hmid]; rfl
  obtain ⟨o, s₂, hsteps, -, hend, hq⟩ := Steps.callFree hM p X.admits X.cas X.clock (acts := []) hfr happ hPc trivial
  have hq' : vx_Q Qc XC mc ms free a (U.calling g mk a) o s₂ := hq
  rw [State.frames_setTop' g h.top] at hend
  obtain ⟨g₀, hg0⟩ := Option.isSome_iff_exists.mp h.top
  obtain ⟨r, hr⟩ := State.topJava?_eq_some.mp hg0
  have hr' : (({ U with heap := s₂.heap, slotsUsed := s₂.slotsUsed } : State).setVm s₂.vm).frames = .java g₀ :: r := hr
  rcases hq' with ⟨hqc, L, hfe, hL⟩ | ⟨q, rfl, E, ce, L, hx, hce, hcv, hcl, hW₂, hsm, hL⟩
  · obtain ⟨⟨v, rfl⟩, hW₂, e2, q2, q3, q4, q5, q6⟩ := id hfe
    have e3 : s₂ = ({ (U.calling g mk a).setFrames s₂.frames with heap := s₂.heap, slotsUsed := s₂.slotsUsed } : State).setVm s₂.vm := by
      have : s₂ = ({ s₂ with vm := (U.calling g mk a).vm } : State).setVm s₂.vm := rfl
      rw [e2] at this
      exact this
    obtain ⟨c₂, i₂, len₂, hc₂, hd₂, hf₂⟩ := hend
    have hW' : U.WarmedH s₂.vm := hW₂
    have hcc : c₂ = c := by
      have h1 : s₂.code? g.method = U.code? g.method := by
        rw [State.code?_eq, State.code?_eq, hW'.alike.method?]
      exact Option.some.inj (hc₂.symm.trans (h1.trans h.code))
    subst hcc
    have hlen : len₂ = len := by rw [hdg] at hd₂; cases hd₂; rfl
    subst hlen
    have hs₂ : s₂ = (({ U with heap := s₂.heap, slotsUsed := s₂.slotsUsed } : State).setVm s₂.vm).setTop { g with pc := g.pc + len₂, stack := v.toList ++ g.stack } := by
      refine e3.trans ?_
      rw [hf₂, State.calling_eq h.top, State.setFrames_setFrames, State.setTop_of_frames _ hr', hr]
      rfl
    have hsame : U.sameButNew ({ U with heap := s₂.heap, slotsUsed := s₂.slotsUsed } : State) L mc ms := by
      refine ⟨?_, q2, q3, q4, q5, q6⟩
      obtain ⟨t, ht, -⟩ := State.frames_cons hr
      show ({ U with heap := s₂.heap, slotsUsed := s₂.slotsUsed } : State) = { U.setFrames U.frames with heap := s₂.heap, slotsUsed := s₂.slotsUsed }
      rw [State.setFrames_self ht]
    subst hg
    refine Or.inl ⟨v, ⟨(({ U with heap := s₂.heap, slotsUsed := s₂.slotsUsed } : State).setVm s₂.vm), Ls ++ L, c0 + mc, s0 + ms⟩,
      ⟨X.admits, X.cas, X.clock, X.frames, X.room, X.hears, X.method, X.code, (X.here.setHeapUsed s₂.heap s₂.slotsUsed).setVm hW'.alike, X.tail, State.WarmedH.trans X.warmed hW', X.limits, X.bytes, X.same.trans (hsame.setVm s.vm)⟩,
      ⟨g, mk, s₂, L, rfl, rfl, hqc, rfl, hL, rfl, rfl⟩, ?_⟩
    show Steps p.tables e below _ ((({ U with heap := s₂.heap, slotsUsed := s₂.slotsUsed } : State).setVm s₂.vm).setTop { g with pc := g.pc + len₂, stack := v.toList ++ g.stack })
    rw [← hs₂]
    exact hsteps
  · obtain ⟨e2, q2, q3, q4, q5, q6⟩ := id hsm
    have e3 : s₂ = ({ (U.calling g mk a).setFrames s₂.frames with heap := s₂.heap, slotsUsed := s₂.slotsUsed } : State).setVm s₂.vm := by
      have : s₂ = ({ s₂ with vm := (U.calling g mk a).vm } : State).setVm s₂.vm := rfl
      rw [e2] at this
      exact this
    have hf₂ : s₂.frames = .throwing q :: .java g :: U.frames.tail := hend
    have hW' : U.WarmedH s₂.vm := hW₂
    have hs₂ : s₂ = ((({ U with heap := s₂.heap, slotsUsed := s₂.slotsUsed } : State).setVm s₂.vm).setTop g).pushFrame (.throwing q) := by
      refine e3.trans ?_
      rw [hf₂, State.calling_eq h.top, State.setFrames_setFrames, State.pushFrame, State.frames_setTop _ hr', State.setTop_of_frames _ hr', State.setFrames_setFrames, hr]
      rfl
    have hsame : U.sameButNew ({ U with heap := s₂.heap, slotsUsed := s₂.slotsUsed } : State) L mc ms := by
      refine ⟨?_, q2, q3, q4, q5, q6⟩
      obtain ⟨t, ht, -⟩ := State.frames_cons hr
      show ({ U with heap := s₂.heap, slotsUsed := s₂.slotsUsed } : State) = { U.setFrames U.frames with heap := s₂.heap, slotsUsed := s₂.slotsUsed }
      rw [State.setFrames_self ht]
    subst hg
    refine Or.inr ⟨q, ⟨(({ U with heap := s₂.heap, slotsUsed := s₂.slotsUsed } : State).setVm s₂.vm), Ls ++ L, c0 + mc, s0 + ms⟩,
      ⟨X.admits, X.cas, X.clock, X.frames, X.room, X.hears, X.method, X.code, (X.here.setHeapUsed s₂.heap s₂.slotsUsed).setVm hW'.alike, X.tail, State.WarmedH.trans X.warmed hW', X.limits, X.bytes, X.same.trans (hsame.setVm s.vm)⟩,
      ⟨g, mk, s₂, L, E, ce, rfl, rfl, hx, hce, hcv, hcl, rfl, hL, rfl, rfl⟩, ?_⟩
    show Steps p.tables e below _ (((({ U with heap := s₂.heap, slotsUsed := s₂.slotsUsed } : State).setVm s₂.vm).setTop g).pushFrame (.throwing q))
    rw [← hs₂]
    exact hsteps
end Payer
section Calls
variable {p : Program} {l : Launch} {e : Env} {R : Room} {s : State} {m : MethodId} {args : Array Value} {below : List Frame} {meth : Method} {c : Code} {T : State} {locs : List Loc} {cells slots : Nat}
theorem vx_callV (X : Stand p l e R s m args below meth c T locs cells slots) (hexec : p.tables.exec = Jvm.exec) {own C : String} {index : Nat} {y : MethodName} {bytes : ByteArray} {maxL : Nat} {ret : Option FieldType}
    (hown : s.vm.findClass own = some m.cls) (hlink : (Cond.methodLink own index y).before args s = true) (hinst : (Cond.instanceMethod y).before args s = true) (hsel : (Cond.selects C y y).before args s = true)
    (hcode : (Cond.code y bytes maxL ret).before args s = true) (hy : y.cls ≠ "java/lang/invoke/MethodHandle" ∧ y.cls ≠ "java/lang/invoke/VarHandle")
    {W9 : Nat} {Pre : Pt → Array Value → Prop} {Post : Pt → Array Value → Option Value → Pt → Prop} {PostX : Pt → Array Value → Addr → Pt → Prop} (hK : vx_Back l R p e below s args y 3 W9 Pre Post PostX)
    {b : Addr} {cellB : Cell} (hcell : T.heap[b]? = some cellB) (hobj : cellB.vm.isStatics = false) (hcls : s.vm.findClass C = some cellB.cls)
    {g : JFrame} (hg : g.method = m) (hsize : g.locals.size = c.maxLocals) {argsL rest : List Value} (hlen : ∀ sig, parseMethodDescriptor y.desc = some sig → argsL.length = sig.parameters.length)
    (hstack : g.stack = argsL.reverse ++ .ref b :: rest) (hW : 2 * g.monitorRoom + (rest.map fun v => v.category).sum ≤ W9) (hdg : decode c.code g.pc = .ok (.invokevirtual index, 3))
    (hpre : ∀ vm₁, s.WarmedH vm₁ → Pre ⟨T.setVm vm₁, locs, cells, slots⟩ (Value.ref b :: argsL).toArray) :
    (∃ (v : Option Value) (vm₁ : Vm) (B : Pt), s.WarmedH vm₁ ∧ Stand p l e R s m args below meth c B.U B.locs B.cells B.slots ∧ Post ⟨T.setVm vm₁, locs, cells, slots⟩ (Value.ref b :: argsL).toArray v B ∧
      ∀ target, Steps p.tables e below (B.U.setTop { g with pc := g.pc + 3, stack := v.toList ++ rest }) target → Steps p.tables e below (T.setTop g) target) ∨
    (∃ (q : Addr) (vm₁ : Vm) (B : Pt), s.WarmedH vm₁ ∧ Stand p l e R s m args below meth c B.U B.locs B.cells B.slots ∧ PostX ⟨T.setVm vm₁, locs, cells, slots⟩ (Value.ref b :: argsL).toArray q B ∧
      Steps p.tables e below (T.setTop g) ((B.U.setTop { g with stack := rest }).pushFrame (.throwing q))) := by
  obtain ⟨mk, methM, hnamed, hmethM, hstM, habM⟩ := Cond.instanceMethod_spec hinst
  obtain ⟨methM', cM, hmethM', -, -, -, -, -, -, hsigM⟩ := Cond.code_spec hnamed hcode
  cases hmethM.symm.trans hmethM'
  obtain ⟨c2, r2, m2, q1, q2, q3, q4, kP, hkP, hkPi⟩ := Cond.selects_spec hsel
  cases hcls.symm.trans q1
  cases (State.methodFound?_of_named hnamed hy).symm.trans q2
  cases hnamed.symm.trans q3
  have hselP : selectMethod e.platform s.vm cellB.cls mk = .method mk := by rw [Launch.admits_selectMethod X.admits]; exact q4
  obtain ⟨vm₁, X₁, hstep₁⟩ := X.invokevirtual hexec hown hlink hnamed hmethM hstM hkP hkPi hy (a := b) (cell := cellB) hcell
    (fun z h => by rw [h] at hobj; cases hobj) hselP hmethM habM hkP hkPi (g := g) hg (argsL := argsL) (rest := rest) (hlen _ hsigM) hstack hdg
  rcases hK m meth c ⟨T.setVm vm₁, locs, cells, slots⟩ { g with stack := rest } (.invokevirtual index) mk (Value.ref b :: argsL).toArray X₁ hg hsize hdg hW (X₁.named hnamed) (hpre vm₁ X₁.warmed) with ⟨v, B, X', hpost, hsteps⟩ | ⟨q, B, X', hpost, hsteps⟩
  · exact Or.inl ⟨v, vm₁, B, X₁.warmed, X', hpost, fun target h => hstep₁ _ fun acts => by rw [doInvoke_state]; exact hsteps.trans h⟩
  · exact Or.inr ⟨q, vm₁, B, X₁.warmed, X', hpost, hstep₁ _ fun acts => by rw [doInvoke_state]; exact hsteps⟩
theorem vx_callS (X : Stand p l e R s m args below meth c T locs cells slots) (hexec : p.tables.exec = Jvm.exec) {own : String} {index : Nat} {y : MethodName} {bytes : ByteArray} {maxL : Nat} {ret : Option FieldType}
    (hown : s.vm.findClass own = some m.cls) (hlink : (Cond.methodLink own index y).before args s = true) (hstat : (Cond.static y).before args s = true) (hinit : (Cond.initialized y.cls).before args s = true)
    (hcode : (Cond.code y bytes maxL ret).before args s = true) (hy : y.cls ≠ "java/lang/invoke/MethodHandle" ∧ y.cls ≠ "java/lang/invoke/VarHandle")
    {W9 : Nat} {Pre : Pt → Array Value → Prop} {Post : Pt → Array Value → Option Value → Pt → Prop} {PostX : Pt → Array Value → Addr → Pt → Prop} (hK : vx_Back l R p e below s args y 3 W9 Pre Post PostX)
    {g : JFrame} (hg : g.method = m) (hsize : g.locals.size = c.maxLocals) {argsL rest : List Value} (hlen : ∀ sig, parseMethodDescriptor y.desc = some sig → argsL.length = sig.parameters.length)
    (hstack : g.stack = argsL.reverse ++ rest) (hW : 2 * g.monitorRoom + (rest.map fun v => v.category).sum ≤ W9) (hdg : decode c.code g.pc = .ok (.invokestatic index, 3))
    (hpre : ∀ vm₁, s.WarmedH vm₁ → Pre ⟨T.setVm vm₁, locs, cells, slots⟩ argsL.toArray) :
    (∃ (v : Option Value) (vm₁ : Vm) (B : Pt), s.WarmedH vm₁ ∧ Stand p l e R s m args below meth c B.U B.locs B.cells B.slots ∧ Post ⟨T.setVm vm₁, locs, cells, slots⟩ argsL.toArray v B ∧
      ∀ target, Steps p.tables e below (B.U.setTop { g with pc := g.pc + 3, stack := v.toList ++ rest }) target → Steps p.tables e below (T.setTop g) target) ∨
    (∃ (q : Addr) (vm₁ : Vm) (B : Pt), s.WarmedH vm₁ ∧ Stand p l e R s m args below meth c B.U B.locs B.cells B.slots ∧ PostX ⟨T.setVm vm₁, locs, cells, slots⟩ argsL.toArray q B ∧
      Steps p.tables e below (T.setTop g) ((B.U.setTop { g with stack := rest }).pushFrame (.throwing q))) := by
  obtain ⟨mk, hnamed⟩ := Cond.code_named hcode
  obtain ⟨methM, cM, hmethM, -, -, -, -, -, -, hsigM⟩ := Cond.code_spec hnamed hcode
  have hstatic : methM.isStatic = true := Cond.static_spec hnamed hmethM hstat
  obtain ⟨kP, hkP, -⟩ := className_of_methodNamed hnamed
  have hinitP : kP.init = .initialized := Cond.initialized_spec (findClass_of_methodNamed hnamed) hkP hinit
  obtain ⟨vm₁, X₁, hstep₁⟩ := X.invokestatic hexec hown hlink hnamed hmethM hstatic hkP hinitP hy (g := g) hg (argsL := argsL) (rest := rest) (hlen _ hsigM) hstack hdg
  rcases hK m meth c ⟨T.setVm vm₁, locs, cells, slots⟩ { g with stack := rest } (.invokestatic index) mk argsL.toArray X₁ hg hsize hdg hW (X₁.named hnamed) (hpre vm₁ X₁.warmed) with ⟨v, B, X', hpost, hsteps⟩ | ⟨q, B, X', hpost, hsteps⟩
  · exact Or.inl ⟨v, vm₁, B, X₁.warmed, X', hpost, fun target h => hstep₁ _ fun acts => by rw [doInvoke_state]; exact hsteps.trans h⟩
  · exact Or.inr ⟨q, vm₁, B, X₁.warmed, X', hpost, hstep₁ _ fun acts => by rw [doInvoke_state]; exact hsteps⟩
end Calls
theorem vx_cls {s : State} {T : State} {vm₁ : Vm} {E : String} {k : ClassId} (hW : s.WarmedH vm₁) (h : (T.setVm vm₁).vm.findClass E = some k) : s.vm.findClass E = some k := by
  have h1 : vm₁.findClass E = some k := h
  rw [hW.alike.findClass] at h1
  exact h1
/-- the method's frame g, with q thrown over it -/
def vx_W (p : Program) (l : Launch) (e : Env) (R : Room) (s : State) (m : MethodId) (args : Array Value) (below : List Frame) (meth : Method) (c : Code) (H : Heap) (locs : List Loc) (cells slots : Nat) (Q : State → Prop) (g : JFrame) (q : Addr) : Prop :=
  ∀ T : State, T.heap = H → Stand p l e R s m args below meth c T locs cells slots → ∃ t, Steps p.tables e below ((T.setTop g).pushFrame (.throwing q)) t ∧ Q t
def vx_Run (p : Program) (l : Launch) (e : Env) (R : Room) (s : State) (m : MethodId) (args : Array Value) (below : List Frame) (meth : Method) (c : Code) (H : Heap) (locs : List Loc) (cells slots mc ms : Nat) (g : JFrame) (rest : List Value) (Qa : State → Outcome → State → Prop) (XC : String → State → State → Prop) (free : Addr → Prop) : Prop :=
  ∀ T : State, T.heap = H → Stand p l e R s m args below meth c T locs cells slots →
    (∃ (v : Option Value) (st₀ t T' : State) (L : List Loc), st₀.heap = H ∧ Stand p l e R s m args below meth c T' (locs ++ L) (cells + mc) (slots + ms) ∧ (∀ q ∈ L, free q.base) ∧ T'.heap = t.heap ∧ T'.vm = t.vm ∧ Qa st₀ (.returned v) t ∧
      Goes p e below T g T' { g with pc := g.pc + 3, stack := v.toList ++ rest }) ∨
    (∃ (q : Addr) (st₀ t T' : State) (L : List Loc) (E : String) (ce : Cell), st₀.heap = H ∧ Stand p l e R s m args below meth c T' (locs ++ L) (cells + mc) (slots + ms) ∧ (∀ z ∈ L, free z.base) ∧ T'.heap = t.heap ∧ T'.vm = t.vm ∧ XC E st₀ t ∧ t.heap[q]? = some ce ∧ ce.vm = .none ∧ s.vm.findClass E = some ce.cls ∧
      Steps p.tables e below (T.setTop g) ((T'.setTop { g with stack := rest }).pushFrame (.throwing q)))
def vx_X {S : Type} (px : S → Prop) (B : String → S → State → Prop) (A : Nat → Prop) : String → State → State → Prop := fun E st t => ∃ u : S, px u ∧ B E u t ∧ va_F A st t
section Runs
variable {p : Program} {l : Launch} {e : Env} {R : Room} {s : State} {m : MethodId} {args : Array Value} {below : List Frame} {meth : Method} {c : Code} {H : Heap} {locs : List Loc} {cells slots : Nat}
variable {y : MethodName} {bytes cc : ByteArray} {maxL nL mc ms n index : Nat} {ret : Option FieldType} {ws : List Cond} {rm : Room} {Pc : Array Value → State → Prop} {Qc : Array Value → State → Outcome → State → Prop} {XC : String → State → State → Prop} {free : Addr → Prop} {Ts : List Cond} {own C : String} {b : Addr} {As rest : List Value} {g : JFrame}
theorem vx_callBack (cb : CallB R s args own index y bytes maxL ret ws rm mc ms n) (hM : vx_Met l y ws rm Pc Qc XC mc ms free) (hbl : FrameBlind Pc) : vx_Back l R p e below s args y 3 8 (PreOf R mc ms Pc) (PostOf Qc mc ms free) (vx_Post XC mc ms free) := by
  obtain ⟨hrc, hrs, hfr, hlo, hws, hcw, -, hini, -⟩ := cb
  exact vx_back (bytes := bytes) (maxL := maxL) (ret := ret) hM hbl hrc hrs hfr hlo hws hcw (fun a' U hW => word_at hW (Or.inl (by first | rfl | simp [Cond.onTables, Cond.keeps, Cond.steady])) hini)
theorem vx_runV (S : CallFix p m c cc nL s args Ts own) (hM : vx_Met l y ws rm Pc Qc XC mc ms free) (cw : CallW R s args own C index y bytes maxL ret ws rm mc ms n) (hp : PreV s H C b Pc As)
    (hg : g.method = m) (hn : As.length = n) (hsize : g.locals.size = nL) (hstack : g.stack = As.reverse ++ .ref b :: rest) (hW : 2 * g.monitorRoom + (rest.map fun v => v.category).sum ≤ 8) (hdg : decode cc g.pc = .ok (.invokevirtual index, 3)) (hf : cells + mc ≤ R.cells ∧ slots + ms ≤ R.slots) :
    vx_Run p l e R s m args below meth c H locs cells slots mc ms g rest (Qc (Value.ref b :: As).toArray) XC free := by
  have hK : vx_Back l R p e below s args y 3 8 (PreOf R mc ms Pc) (PostOf Qc mc ms free) (vx_Post XC mc ms free) := vx_callBack cw.1 hM hp.1
  obtain ⟨⟨-, -, -, -, -, -, hcode, -, hy, hlen, hl⟩, hin, hse⟩ := cw
  obtain ⟨hx, hb, hml, ho, -⟩ := S
  obtain ⟨-, ⟨cellB, hcB, hoB, hclB⟩, hPc⟩ := hp
  intro T hT X
  rcases vx_callV X hx (C := C) (bytes := bytes) (maxL := maxL) (ret := ret) ho hl hin hse hcode hy hK (by rw [hT]; exact hcB) hoB hclB hg (hsize.trans hml.symm) (argsL := As) (rest := rest) (fun sig h => hn.trans (hlen sig h)) hstack hW (by rw [hb]; exact hdg)
    (fun vm₁ hW₁ => ⟨hf.1, hf.2, hPc (T.setVm vm₁) hT hW₁⟩) with ⟨v, vm₁, ⟨U', l2, c2, s2⟩, hW₁, X', ⟨g', mk, t, L, e1, e2, hq, h1, hL, h2, h3⟩, st⟩ | ⟨q, vm₁, ⟨U', l2, c2, s2⟩, hW₁, X', ⟨g', mk, t, L, E, ce, e1, e2, hq, hce, hcv, hcl, h1, hL, h2, h3⟩, st⟩
  · dsimp only [Pt.U, Pt.locs, Pt.cells, Pt.slots] at X' e1 e2 h1 h2 h3 st
    subst h1; subst h2; subst h3
    exact Or.inl ⟨v, (T.setVm vm₁).calling g' mk (Value.ref b :: As).toArray, t, U', L, hT, X', hL, e1, e2, hq, st⟩
  · dsimp only [Pt.U, Pt.locs, Pt.cells, Pt.slots] at X' e1 e2 h1 h2 h3 st hcl
    subst h1; subst h2; subst h3
    exact Or.inr ⟨q, (T.setVm vm₁).calling g' mk (Value.ref b :: As).toArray, t, U', L, E, ce, hT, X', hL, e1, e2, hq, hce, hcv, vx_cls hW₁ hcl, st⟩
theorem vx_runS (S : CallFix p m c cc nL s args Ts own) (hM : vx_Met l y ws rm Pc Qc XC mc ms free) (cw : CallB R s args own index y bytes maxL ret ws rm mc ms n ∧ (Cond.static y).before args s = true) (hp : PreS s H Pc As)
    (hg : g.method = m) (hn : As.length = n) (hsize : g.locals.size = nL) (hstack : g.stack = As.reverse ++ rest) (hW : 2 * g.monitorRoom + (rest.map fun v => v.category).sum ≤ 8) (hdg : decode cc g.pc = .ok (.invokestatic index, 3)) (hf : cells + mc ≤ R.cells ∧ slots + ms ≤ R.slots) :
    vx_Run p l e R s m args below meth c H locs cells slots mc ms g rest (Qc As.toArray) XC free := by
  have hK : vx_Back l R p e below s args y 3 8 (PreOf R mc ms Pc) (PostOf Qc mc ms free) (vx_Post XC mc ms free) := vx_callBack cw.1 hM hp.1
  obtain ⟨⟨-, -, -, -, -, -, hcode, hini, hy, hlen, hl⟩, hstt⟩ := cw
  obtain ⟨hx, hb, hml, ho, -⟩ := S
  intro T hT X
  rcases vx_callS X hx (bytes := bytes) (maxL := maxL) (ret := ret) ho hl hstt hini hcode hy hK hg (hsize.trans hml.symm) (argsL := As) (rest := rest) (fun sig h => hn.trans (hlen sig h)) hstack hW (by rw [hb]; exact hdg)
    (fun vm₁ hW₁ => ⟨hf.1, hf.2, hp.2 (T.setVm vm₁) hT hW₁⟩) with ⟨v, vm₁, ⟨U', l2, c2, s2⟩, hW₁, X', ⟨g', mk, t, L, e1, e2, hq, h1, hL, h2, h3⟩, st⟩ | ⟨q, vm₁, ⟨U', l2, c2, s2⟩, hW₁, X', ⟨g', mk, t, L, E, ce, e1, e2, hq, hce, hcv, hcl, h1, hL, h2, h3⟩, st⟩
  · dsimp only [Pt.U, Pt.locs, Pt.cells, Pt.slots] at X' e1 e2 h1 h2 h3 st
    subst h1; subst h2; subst h3
    exact Or.inl ⟨v, (T.setVm vm₁).calling g' mk As.toArray, t, U', L, hT, X', hL, e1, e2, hq, st⟩
  · dsimp only [Pt.U, Pt.locs, Pt.cells, Pt.slots] at X' e1 e2 h1 h2 h3 st hcl
    subst h1; subst h2; subst h3
    exact Or.inr ⟨q, (T.setVm vm₁).calling g' mk As.toArray, t, U', L, E, ce, hT, X', hL, e1, e2, hq, hce, hcv, vx_cls hW₁ hcl, st⟩
end Runs
section Rows
variable {p : Program} {l : Launch} {e : Env} {R : Room} {s : State} {m : MethodId} {args : Array Value} {below : List Frame} {meth : Method} {c : Code} {H : Heap} {locs : List Loc} {cells slots : Nat} {Q : State → Prop}
variable {mc ms : Nat} {free : Addr → Prop} {A0 A1 : Nat → Prop} {H0 : Heap} {a : Array Value} {pc : Nat} {ls : Array Slot} {st0 rest : List Value}
theorem vx_keep {st₀ t T' : State} {L : List Loc} (h0 : st₀.heap = H) (e1 : T'.heap = t.heap) (hS : va_S A0 H0 H locs) (hA : ∀ q, q < H.size → A1 q → A0 q) (hf : ∀ q, free q → A0 q) (hL : ∀ q ∈ L, free q.base) (hF : va_F A1 st₀ t) :
    H.size ≤ T'.heap.size ∧ (∀ q : Nat, q < H.size → ¬ A1 q → T'.heap[q]? = H[q]?) ∧ va_S A0 H0 T'.heap (locs ++ L) := by
  obtain ⟨hz, hk⟩ := hF
  rw [h0] at hz hk
  exact ⟨by rw [e1]; exact hz, fun q h1 h2 => by rw [e1]; exact hk q h1 h2,
    ⟨Nat.le_trans hS.1 (by rw [e1]; exact hz), fun q h1 h2 => by rw [e1, hk q (Nat.lt_of_lt_of_le h1 hS.1) (fun z => h2 (hA q (Nat.lt_of_lt_of_le h1 hS.1) z))]; exact hS.2.1 q h1 h2, fun q hq => by
      rcases List.mem_append.mp hq with h | h
      · exact hS.2.2 q h
      · exact hf _ (hL q h)⟩⟩
theorem vx_calli {S SX : Type} {post : Int32 → S → Prop} {px : SX → Prop} {B : S → State → Prop} {BX : String → SX → State → Prop} {AX : Nat → Prop} (hr : vx_Run p l e R s m args below meth c H locs cells slots mc ms (F0 m pc ls st0) rest (va_Qi post B A1 a) (vx_X px BX AX) free) (hS : va_S A0 H0 H locs) (hA : ∀ q, q < H.size → A1 q → A0 q) (hf : ∀ q, free q → A0 q) (hAX : ∀ q, q < H.size → AX q → A0 q)
    (kx : ∀ (E : String) (ce : Cell) (q9 : Addr) (u : SX) (t : State) (H1 : Heap) (locs1 : List Loc), t.heap = H1 → s.vm.Alike t.vm → px u → BX E u t → H.size ≤ H1.size → (∀ q : Nat, q < H.size → ¬ AX q → H1[q]? = H[q]?) → va_S A0 H0 H1 locs1 → H1[q9]? = some ce → ce.vm = .none → s.vm.findClass E = some ce.cls → vx_W p l e R s m args below meth c H1 locs1 (cells + mc) (slots + ms) Q (F0 m pc ls rest) q9)
    (kk : ∀ (r : Int32) (u : S) (t : State) (H1 : Heap) (locs1 : List Loc), t.heap = H1 → s.vm.Alike t.vm → post r u → B u t → H.size ≤ H1.size → (∀ q : Nat, q < H.size → ¬ A1 q → H1[q]? = H[q]?) → va_S A0 H0 H1 locs1 → W p l e R s m args below meth c H1 locs1 (cells + mc) (slots + ms) Q (F0 m (pc + 3) ls (.int r :: rest))) : W p l e R s m args below meth c H locs cells slots Q (F0 m pc ls st0) := by
  intro T hT X
  rcases hr T hT X with ⟨v, st₀, t, T', L, h0, X', hL, e1, e2, ⟨⟨r, u, hv, hp, hb⟩, hF⟩, st⟩ | ⟨q, st₀, t, T', L, E, ce, h0, X', hL, e1, e2, ⟨u, hp, hb, hF⟩, hce, hcv, hcl, st⟩
  · cases hv
    obtain ⟨k1, k2, k3⟩ := vx_keep h0 e1 hS hA hf hL hF
    obtain ⟨t2, a1, b1⟩ := kk r u t T'.heap (locs ++ L) e1.symm (by rw [← e2]; exact X'.warmed.alike) hp hb k1 k2 k3 T' rfl X'
    exact ⟨t2, st t2 a1, b1⟩
  · obtain ⟨k1, k2, k3⟩ := vx_keep h0 e1 hS hAX hf hL hF
    obtain ⟨t2, a1, b1⟩ := kx E ce q u t T'.heap (locs ++ L) e1.symm (by rw [← e2]; exact X'.warmed.alike) hp hb k1 k2 k3 (by rw [e1]; exact hce) hcv hcl T' rfl X'
    exact ⟨t2, st.trans a1, b1⟩
theorem vx_calll {S SX : Type} {post : Int64 → S → Prop} {px : SX → Prop} {B : S → State → Prop} {BX : String → SX → State → Prop} {AX : Nat → Prop} (hr : vx_Run p l e R s m args below meth c H locs cells slots mc ms (F0 m pc ls st0) rest (va_Ql post B A1 a) (vx_X px BX AX) free) (hS : va_S A0 H0 H locs) (hA : ∀ q, q < H.size → A1 q → A0 q) (hf : ∀ q, free q → A0 q) (hAX : ∀ q, q < H.size → AX q → A0 q)
    (kx : ∀ (E : String) (ce : Cell) (q9 : Addr) (u : SX) (t : State) (H1 : Heap) (locs1 : List Loc), t.heap = H1 → s.vm.Alike t.vm → px u → BX E u t → H.size ≤ H1.size → (∀ q : Nat, q < H.size → ¬ AX q → H1[q]? = H[q]?) → va_S A0 H0 H1 locs1 → H1[q9]? = some ce → ce.vm = .none → s.vm.findClass E = some ce.cls → vx_W p l e R s m args below meth c H1 locs1 (cells + mc) (slots + ms) Q (F0 m pc ls rest) q9)
    (kk : ∀ (r : Int64) (u : S) (t : State) (H1 : Heap) (locs1 : List Loc), t.heap = H1 → s.vm.Alike t.vm → post r u → B u t → H.size ≤ H1.size → (∀ q : Nat, q < H.size → ¬ A1 q → H1[q]? = H[q]?) → va_S A0 H0 H1 locs1 → W p l e R s m args below meth c H1 locs1 (cells + mc) (slots + ms) Q (F0 m (pc + 3) ls (.long r :: rest))) : W p l e R s m args below meth c H locs cells slots Q (F0 m pc ls st0) := by
  intro T hT X
  rcases hr T hT X with ⟨v, st₀, t, T', L, h0, X', hL, e1, e2, ⟨⟨r, u, hv, hp, hb⟩, hF⟩, st⟩ | ⟨q, st₀, t, T', L, E, ce, h0, X', hL, e1, e2, ⟨u, hp, hb, hF⟩, hce, hcv, hcl, st⟩
  · cases hv
    obtain ⟨k1, k2, k3⟩ := vx_keep h0 e1 hS hA hf hL hF
    obtain ⟨t2, a1, b1⟩ := kk r u t T'.heap (locs ++ L) e1.symm (by rw [← e2]; exact X'.warmed.alike) hp hb k1 k2 k3 T' rfl X'
    exact ⟨t2, st t2 a1, b1⟩
  · obtain ⟨k1, k2, k3⟩ := vx_keep h0 e1 hS hAX hf hL hF
    obtain ⟨t2, a1, b1⟩ := kx E ce q u t T'.heap (locs ++ L) e1.symm (by rw [← e2]; exact X'.warmed.alike) hp hb k1 k2 k3 (by rw [e1]; exact hce) hcv hcl T' rfl X'
    exact ⟨t2, st.trans a1, b1⟩
theorem vx_callf {S SX : Type} {post : UInt32 → S → Prop} {px : SX → Prop} {B : S → State → Prop} {BX : String → SX → State → Prop} {AX : Nat → Prop} (hr : vx_Run p l e R s m args below meth c H locs cells slots mc ms (F0 m pc ls st0) rest (va_Qf post B A1 a) (vx_X px BX AX) free) (hS : va_S A0 H0 H locs) (hA : ∀ q, q < H.size → A1 q → A0 q) (hf : ∀ q, free q → A0 q) (hAX : ∀ q, q < H.size → AX q → A0 q)
    (kx : ∀ (E : String) (ce : Cell) (q9 : Addr) (u : SX) (t : State) (H1 : Heap) (locs1 : List Loc), t.heap = H1 → s.vm.Alike t.vm → px u → BX E u t → H.size ≤ H1.size → (∀ q : Nat, q < H.size → ¬ AX q → H1[q]? = H[q]?) → va_S A0 H0 H1 locs1 → H1[q9]? = some ce → ce.vm = .none → s.vm.findClass E = some ce.cls → vx_W p l e R s m args below meth c H1 locs1 (cells + mc) (slots + ms) Q (F0 m pc ls rest) q9)
    (kk : ∀ (r : UInt32) (u : S) (t : State) (H1 : Heap) (locs1 : List Loc), t.heap = H1 → s.vm.Alike t.vm → post r u → B u t → H.size ≤ H1.size → (∀ q : Nat, q < H.size → ¬ A1 q → H1[q]? = H[q]?) → va_S A0 H0 H1 locs1 → W p l e R s m args below meth c H1 locs1 (cells + mc) (slots + ms) Q (F0 m (pc + 3) ls (.float r :: rest))) : W p l e R s m args below meth c H locs cells slots Q (F0 m pc ls st0) := by
  intro T hT X
  rcases hr T hT X with ⟨v, st₀, t, T', L, h0, X', hL, e1, e2, ⟨⟨r, u, hv, hp, hb⟩, hF⟩, st⟩ | ⟨q, st₀, t, T', L, E, ce, h0, X', hL, e1, e2, ⟨u, hp, hb, hF⟩, hce, hcv, hcl, st⟩
  · cases hv
    obtain ⟨k1, k2, k3⟩ := vx_keep h0 e1 hS hA hf hL hF
    obtain ⟨t2, a1, b1⟩ := kk r u t T'.heap (locs ++ L) e1.symm (by rw [← e2]; exact X'.warmed.alike) hp hb k1 k2 k3 T' rfl X'
    exact ⟨t2, st t2 a1, b1⟩
  · obtain ⟨k1, k2, k3⟩ := vx_keep h0 e1 hS hAX hf hL hF
    obtain ⟨t2, a1, b1⟩ := kx E ce q u t T'.heap (locs ++ L) e1.symm (by rw [← e2]; exact X'.warmed.alike) hp hb k1 k2 k3 (by rw [e1]; exact hce) hcv hcl T' rfl X'
    exact ⟨t2, st.trans a1, b1⟩
theorem vx_calld {S SX : Type} {post : UInt64 → S → Prop} {px : SX → Prop} {B : S → State → Prop} {BX : String → SX → State → Prop} {AX : Nat → Prop} (hr : vx_Run p l e R s m args below meth c H locs cells slots mc ms (F0 m pc ls st0) rest (va_Qd post B A1 a) (vx_X px BX AX) free) (hS : va_S A0 H0 H locs) (hA : ∀ q, q < H.size → A1 q → A0 q) (hf : ∀ q, free q → A0 q) (hAX : ∀ q, q < H.size → AX q → A0 q)
    (kx : ∀ (E : String) (ce : Cell) (q9 : Addr) (u : SX) (t : State) (H1 : Heap) (locs1 : List Loc), t.heap = H1 → s.vm.Alike t.vm → px u → BX E u t → H.size ≤ H1.size → (∀ q : Nat, q < H.size → ¬ AX q → H1[q]? = H[q]?) → va_S A0 H0 H1 locs1 → H1[q9]? = some ce → ce.vm = .none → s.vm.findClass E = some ce.cls → vx_W p l e R s m args below meth c H1 locs1 (cells + mc) (slots + ms) Q (F0 m pc ls rest) q9)
    (kk : ∀ (r : UInt64) (u : S) (t : State) (H1 : Heap) (locs1 : List Loc), t.heap = H1 → s.vm.Alike t.vm → post r u → B u t → H.size ≤ H1.size → (∀ q : Nat, q < H.size → ¬ A1 q → H1[q]? = H[q]?) → va_S A0 H0 H1 locs1 → W p l e R s m args below meth c H1 locs1 (cells + mc) (slots + ms) Q (F0 m (pc + 3) ls (.double r :: rest))) : W p l e R s m args below meth c H locs cells slots Q (F0 m pc ls st0) := by
  intro T hT X
  rcases hr T hT X with ⟨v, st₀, t, T', L, h0, X', hL, e1, e2, ⟨⟨r, u, hv, hp, hb⟩, hF⟩, st⟩ | ⟨q, st₀, t, T', L, E, ce, h0, X', hL, e1, e2, ⟨u, hp, hb, hF⟩, hce, hcv, hcl, st⟩
  · cases hv
    obtain ⟨k1, k2, k3⟩ := vx_keep h0 e1 hS hA hf hL hF
    obtain ⟨t2, a1, b1⟩ := kk r u t T'.heap (locs ++ L) e1.symm (by rw [← e2]; exact X'.warmed.alike) hp hb k1 k2 k3 T' rfl X'
    exact ⟨t2, st t2 a1, b1⟩
  · obtain ⟨k1, k2, k3⟩ := vx_keep h0 e1 hS hAX hf hL hF
    obtain ⟨t2, a1, b1⟩ := kx E ce q u t T'.heap (locs ++ L) e1.symm (by rw [← e2]; exact X'.warmed.alike) hp hb k1 k2 k3 (by rw [e1]; exact hce) hcv hcl T' rfl X'
    exact ⟨t2, st.trans a1, b1⟩
theorem vx_callv {S SX : Type} {post : S → Prop} {px : SX → Prop} {B : S → State → Prop} {BX : String → SX → State → Prop} {AX : Nat → Prop} (hr : vx_Run p l e R s m args below meth c H locs cells slots mc ms (F0 m pc ls st0) rest (va_Qv post B A1 a) (vx_X px BX AX) free) (hS : va_S A0 H0 H locs) (hA : ∀ q, q < H.size → A1 q → A0 q) (hf : ∀ q, free q → A0 q) (hAX : ∀ q, q < H.size → AX q → A0 q)
    (kx : ∀ (E : String) (ce : Cell) (q9 : Addr) (u : SX) (t : State) (H1 : Heap) (locs1 : List Loc), t.heap = H1 → s.vm.Alike t.vm → px u → BX E u t → H.size ≤ H1.size → (∀ q : Nat, q < H.size → ¬ AX q → H1[q]? = H[q]?) → va_S A0 H0 H1 locs1 → H1[q9]? = some ce → ce.vm = .none → s.vm.findClass E = some ce.cls → vx_W p l e R s m args below meth c H1 locs1 (cells + mc) (slots + ms) Q (F0 m pc ls rest) q9)
    (kk : ∀ (u : S) (t : State) (H1 : Heap) (locs1 : List Loc), t.heap = H1 → s.vm.Alike t.vm → post u → B u t → H.size ≤ H1.size → (∀ q : Nat, q < H.size → ¬ A1 q → H1[q]? = H[q]?) → va_S A0 H0 H1 locs1 → W p l e R s m args below meth c H1 locs1 (cells + mc) (slots + ms) Q (F0 m (pc + 3) ls (rest))) : W p l e R s m args below meth c H locs cells slots Q (F0 m pc ls st0) := by
  intro T hT X
  rcases hr T hT X with ⟨v, st₀, t, T', L, h0, X', hL, e1, e2, ⟨⟨u, hv, hp, hb⟩, hF⟩, st⟩ | ⟨q, st₀, t, T', L, E, ce, h0, X', hL, e1, e2, ⟨u, hp, hb, hF⟩, hce, hcv, hcl, st⟩
  · cases hv
    obtain ⟨k1, k2, k3⟩ := vx_keep h0 e1 hS hA hf hL hF
    obtain ⟨t2, a1, b1⟩ := kk u t T'.heap (locs ++ L) e1.symm (by rw [← e2]; exact X'.warmed.alike) hp hb k1 k2 k3 T' rfl X'
    exact ⟨t2, st t2 a1, b1⟩
  · obtain ⟨k1, k2, k3⟩ := vx_keep h0 e1 hS hAX hf hL hF
    obtain ⟨t2, a1, b1⟩ := kx E ce q u t T'.heap (locs ++ L) e1.symm (by rw [← e2]; exact X'.warmed.alike) hp hb k1 k2 k3 (by rw [e1]; exact hce) hcv hcl T' rfl X'
    exact ⟨t2, st.trans a1, b1⟩
/-- caught by the row x of this method's table; the rows ahead don't take it -/
theorem vx_catch {own name : String} {E : String} {ce : Cell} {q : Addr} (hown : s.vm.findClass own = some m.cls) (pre : List ExceptionTableEntry) (x : ExceptionTableEntry) (suf : List ExceptionTableEntry) (hsplit : c.exceptionTable.toList = pre ++ x :: suf)
    (hpass : ∀ z ∈ pre, covers z pc = false ∨ (z.catchType ≠ 0 ∧ ∃ nm : String, (Cond.classLink own z.catchType nm).before args s = true ∧ va_Nc E nm s)) (hx : covers x pc = true) (h0 : x.catchType ≠ 0)
    (hlink : (Cond.classLink own x.catchType name).before args s = true) (hcast : (Cond.castable E name).before args s = true) (hcell : H[q]? = some ce) (hv : ce.vm = .none) (hcl : s.vm.findClass E = some ce.cls)
    (kk : W p l e R s m args below meth c H locs cells slots Q (F0 m x.handlerPc ls [.ref q])) : vx_W p l e R s m args below meth c H locs cells slots Q (F0 m pc ls rest) q := by
  intro T hT X
  have hpl : e.platform.magicAccessors = ({} : Platform).magicAccessors := by rw [X.admits.platform]
  obtain ⟨c3, c4, hc3, hc4, hasg⟩ := Cond.castable_spec hcast
  cases Option.some.inj (hc3.symm.trans hcl)
  obtain ⟨c5, hc5, hcl5⟩ := Cond.classLink_spec hown hlink e.platform hpl
  cases Option.some.inj (hc4.symm.trans hc5)
  obtain ⟨vm', X', st⟩ := X.thenCaughtThrough q (g := F0 m pc ls rest) rfl (Steps.refl _) (by rw [hT]; exact hcell) (by rw [hv]; rfl) (by obtain ⟨k9, h9, -⟩ := Vm.findClass_spec hcl; exact ⟨k9, h9⟩) pre x suf hsplit
    (fun z hz => by
      rcases hpass z hz with h | ⟨hz0, nm, hl1, hn1⟩
      · exact Or.inl h
      · obtain ⟨c6, hc6, hcl6⟩ := Cond.classLink_spec hown hl1 e.platform hpl
        obtain ⟨a8, b8, h1, h2, h3⟩ := hn1
        cases Option.some.inj (h1.symm.trans hcl)
        cases Option.some.inj (h2.symm.trans hc6)
        exact Or.inr ⟨hz0, _, hcl6, h3⟩) hx (Or.inr ⟨h0, c4, hcl5, hasg⟩)
  obtain ⟨t, a1, b1⟩ := kk (T.setVm vm') hT X'
  exact ⟨t, st.trans a1, b1⟩
end Rows
section Ends
variable {p : Program} {l : Launch} {e : Env} {R : Room} {s : State} {m : MethodId} {args : Array Value} {below : List Frame} {meth : Method} {c : Code} {H : Heap} {locs : List Loc} {cells slots : Nat} {Q : State → Prop}
variable {mc ms : Nat} {free : Addr → Prop} {A0 A1 : Nat → Prop} {H0 : Heap} {a : Array Value} {ls : Array Slot} {st0 rest : List Value}
variable {Qc : Array Value → State → Outcome → State → Prop} {XC : String → State → State → Prop}
/-- what a body that may throw owes at its end -/
def vx_MQ (below : List Frame) (Qc : Array Value → State → Outcome → State → Prop) (XC : String → State → State → Prop) (a : Array Value) (s : State) (mc ms : Nat) (free : Addr → Prop) : State → Prop := fun t =>
  ∃ o, t.status = .running ∧ Ended t below o ∧ vx_Q Qc XC mc ms free a s o t
theorem vx_ret {g : JFrame} {mc ms : Nat} (k : W p l e R s m args below meth c H locs cells slots (MQ below Qc args s mc ms free) g) : W p l e R s m args below meth c H locs cells slots (vx_MQ below Qc XC args s mc ms free) g := by
  intro T hT X
  obtain ⟨t, a1, o, b1, b2, b3, b4⟩ := k T hT X
  exact ⟨t, a1, o, b1, b2, Or.inl ⟨b3, b4⟩⟩
/-- not caught here: it goes on to the caller -/
theorem vx_widen {g : JFrame} {q : Addr} {k n : Nat} (h1 : cells ≤ k) (h2 : slots ≤ n) (kk : vx_W p l e R s m args below meth c H locs k n Q g q) : vx_W p l e R s m args below meth c H locs cells slots Q g q := fun T hT X => kk T hT (stand_widen X h1 h2)
theorem vx_out {pc : Nat} {E : String} {ce : Cell} {q : Addr} {mc ms : Nat} (hout : ∀ x ∈ c.exceptionTable.toList, covers x pc = false) (hlocks : meth.locks = false) (hcell : H[q]? = some ce) (hv : ce.vm = .none) (hcl : s.vm.findClass E = some ce.cls)
    (hx : ∀ t : State, t.heap = H → s.vm.Alike t.vm → XC E s t) (hf : ∀ z ∈ locs, free z.base) (hc : cells ≤ mc) (hs : slots ≤ ms) :
    vx_W p l e R s m args below meth c H locs cells slots (vx_MQ below Qc XC args s mc ms free) (F0 m pc ls rest) q := by
  intro T hT X
  obtain ⟨st1, hrun, hend, hW, hsm⟩ := X.leaveThrown q (g := F0 m pc ls rest) rfl rfl rfl hout hlocks
  have hcell9 : (T.setFrames (.throwing q :: below)).heap[q]? = some ce := by
    show T.heap[q]? = some ce
    rw [hT]; exact hcell
  exact ⟨_, st1, .threw q, hrun, hend, Or.inr ⟨q, rfl, E, ce, locs, hx _ hT hW.alike, hcell9, hv, hcl, hW, hsm.mono hc hs, hf⟩⟩
theorem vx_frame {U : State} {k n : Nat} (h : s.sameButNew ({ U with vm := s.vm } : State) locs k n) : s.heap.size ≤ U.heap.size ∧ ∀ q : Nat, q < s.heap.size → (∀ z ∈ locs, z.base ≠ q) → U.heap[q]? = s.heap[q]? := by
  obtain ⟨-, h2, -, -, -, h6⟩ := h
  refine ⟨h2, fun q hq hz => ?_⟩
  obtain ⟨c9, e1, e2, e3, e4⟩ := h6 q _ (Array.getElem?_eq_getElem hq)
  have hs : c9.slots = (s.heap[q]).slots := Array.ext_getElem? fun i => e4 i fun hm => hz _ hm rfl
  have h9 : c9 = s.heap[q] := by
    rw [hs] at e2
    exact e2
  have e5 : U.heap[q]? = some c9 := e1
  rw [e5, h9, Array.getElem?_eq_getElem hq]
/-- the words of a throw but the four that speak of the heap -/
def vx_no (w : Cond) : Bool := decide (w ≠ .isRef (.static Bundle.tN "UNASSIGNED_STACK" Bundle.steD)) && decide (w ≠ .isRef (.static Bundle.tN "SUPPRESSED_SENTINEL" Bundle.listD)) && decide (w ≠ .laysStatic Bundle.tN "UNASSIGNED_STACK" Bundle.steD) && decide (w ≠ .laysStatic Bundle.tN "SUPPRESSED_SENTINEL" Bundle.listD)
def vx_at0 (own : String) (ic : Nat) (X : String) (names : List String) : List Cond := (Bundle.ownAtoms0 own ic X names).filter vx_no
def vx_atS (own : String) (ic : Nat) (X : String) (names : List String) : List Cond := (Bundle.ownAtoms own ic X names).filter vx_no
/-- a word that the tables alone decide, or a good one -/
def vx_ot (w : Cond) : Bool := w.onTables || goodWord w
theorem vx_ot_at {args a' : Array Value} {s U : State} {w : Cond} (hW : s.WarmedH U.vm) (hvm : s.vm = U.vm) (hg : vx_ot w = true) (h : w.before args s = true) : w.before a' U = true := by
  simp only [vx_ot, Bool.or_eq_true] at hg
  rcases hg with hg | hg
  · exact va_tabs hg hvm h
  · exact word_at hW (good_of_word hg) h
/-- a list's words: the good ones out of the method's own list, the others by premises of their own -/
theorem vx_hat {args : Array Value} {s : State} {L B : List Cond} (h1 : ∀ w ∈ L.filter goodWord, w.before args s = true) (h2 : ∀ w ∈ L.filter (fun w => !goodWord w), w ∈ B) (h3 : ∀ w ∈ B, w.before args s = true) : ∀ w ∈ L, w.before args s = true := by
  intro w hw
  by_cases g : goodWord w = true
  · exact h1 w (List.mem_filter.mpr ⟨hw, g⟩)
  · refine h3 w (h2 w (List.mem_filter.mpr ⟨hw, ?_⟩))
    show (!goodWord w) = true
    cases hgw : goodWord w
    · rfl
    · exact absurd hgw g
theorem vx_c {args : Array Value} {s : State} {w : Cond} {B : List Cond} (h : w.before args s = true) (t : ∀ w ∈ B, w.before args s = true) : ∀ w' ∈ w :: B, w'.before args s = true := fun w' h' => (List.mem_cons.mp h').elim (fun e => by rw [e]; exact h) (t w')
theorem vx_n {args : Array Value} {s : State} : ∀ w ∈ ([] : List Cond), w.before args s = true := fun _ h => nomatch h
theorem vx_own {args : Array Value} {s : State} {L : List Cond} (h1 : ∀ w ∈ L.filter vx_no, w.before args s = true)
    (hU : (Cond.isRef (.static Bundle.tN "UNASSIGNED_STACK" Bundle.steD)).before args s = true) (hN : (Cond.isRef (.static Bundle.tN "SUPPRESSED_SENTINEL" Bundle.listD)).before args s = true)
    (lU : (Cond.laysStatic Bundle.tN "UNASSIGNED_STACK" Bundle.steD).before args s = true) (lN : (Cond.laysStatic Bundle.tN "SUPPRESSED_SENTINEL" Bundle.listD).before args s = true) : ∀ w ∈ L, w.before args s = true := by
  intro w hw
  by_cases e1 : w = .isRef (.static Bundle.tN "UNASSIGNED_STACK" Bundle.steD)
  · rw [e1]; exact hU
  · by_cases e2 : w = .isRef (.static Bundle.tN "SUPPRESSED_SENTINEL" Bundle.listD)
    · rw [e2]; exact hN
    · by_cases e3 : w = .laysStatic Bundle.tN "UNASSIGNED_STACK" Bundle.steD
      · rw [e3]; exact lU
      · by_cases e4 : w = .laysStatic Bundle.tN "SUPPRESSED_SENTINEL" Bundle.listD
        · rw [e4]; exact lN
        · exact h1 w (List.mem_filter.mpr ⟨hw, by unfold vx_no; rw [decide_eq_true e1, decide_eq_true e2, decide_eq_true e3, decide_eq_true e4]; rfl⟩)
/-- where a static field lies, its class's statics cell in H -/
def vx_L (C n d : String) (A : Nat → Prop) (U : State) (H : Heap) : Prop := ∃ (c : ClassId) (k : Class) (i : Nat) (f : Field) (a : Nat) (cell : Cell), U.vm.findClass C = some c ∧ U.fieldFound? C n d = some (c, k, i, f) ∧ f.isStatic = true ∧ k.statics = some a ∧ H[a]? = some cell ∧ cell.vm.isStatics = true ∧ cell.cls = c ∧ f.slot < cell.slots.size ∧ k.staticTypes[f.slot]? = some f.type ∧ ¬ A a
theorem vx_L.moved {C n d : String} {A : Nat → Prop} {u U : State} {H : Heap} (hvm : u.vm.Alike U.vm) (h : vx_L C n d A u H) : vx_L C n d A U H := by
  obtain ⟨c, k, i, f, a, cell, h1, h2, h3, h4, h5, h6, h7, h8, h9, h10⟩ := h
  obtain ⟨k', hi', he⟩ := State.fieldFound?_setVm hvm h2
  exact ⟨c, k', i, f, a, cell, by rw [hvm.findClass]; exact h1, hi', h3, by rw [he]; exact h4, h5, h6, h7, h8, by rw [he]; exact h9, h10⟩
theorem vx_L.kept {C n d : String} {A : Nat → Prop} {U : State} {H H1 : Heap} (h : vx_L C n d A U H) (hq : ∀ a : Nat, a < H.size → ¬ A a → H1[a]? = H[a]?) : vx_L C n d A U H1 := by
  obtain ⟨c, k, i, f, a, cell, h1, h2, h3, h4, h5, h6, h7, h8, h9, h10⟩ := h
  exact ⟨c, k, i, f, a, cell, h1, h2, h3, h4, by rw [hq a (Array.getElem?_eq_some_iff.mp h5).1 h10]; exact h5, h6, h7, h8, h9, h10⟩
theorem vx_L.narrow {C n d : String} {A B : Nat → Prop} {U : State} {H : Heap} (h : vx_L C n d A U H) (hAB : ∀ q, B q → A q) : vx_L C n d B U H := by
  obtain ⟨c, k, i, f, a, cell, h1, h2, h3, h4, h5, h6, h7, h8, h9, h10⟩ := h
  exact ⟨c, k, i, f, a, cell, h1, h2, h3, h4, h5, h6, h7, h8, h9, fun z => h10 (hAB _ z)⟩
theorem vx_L.word {C n d : String} {A : Nat → Prop} {s : State} {args : Array Value} (h : vx_L C n d A s s.heap) : (Cond.laysStatic C n d).before args s = true := by
  obtain ⟨c, k, i, f, a, cell, h1, h2, h3, h4, h5, h6, h7, h8, h9, -⟩ := h
  show (Cond.laysStatic C n d).holds args s none s [] = true
  exact Cond.laysStatic_of h1 h2 h3 h4 h5 h6 h7 h8 h9
/-- .. and what it holds: null or some reference -/
def vx_Zq (C n d : String) (A : Nat → Prop) (U : State) (H : Heap) : Prop := va_Zq C n d A U H ∧ vx_L C n d A U H
theorem vx_Zq.moved {C n d : String} {A : Nat → Prop} {u U : State} {H : Heap} (hvm : u.vm.Alike U.vm) (h : vx_Zq C n d A u H) : vx_Zq C n d A U H := ⟨va_Zq.moved hvm h.1, vx_L.moved hvm h.2⟩
theorem vx_Zq.kept {C n d : String} {A : Nat → Prop} {U : State} {H H1 : Heap} (h : vx_Zq C n d A U H) (hq : ∀ a : Nat, a < H.size → ¬ A a → H1[a]? = H[a]?) : vx_Zq C n d A U H1 := ⟨va_Zq.kept h.1 hq, vx_L.kept h.2 hq⟩
theorem vx_Zq.narrow {C n d : String} {A B : Nat → Prop} {U : State} {H : Heap} (h : vx_Zq C n d A U H) (hAB : ∀ q, B q → A q) : vx_Zq C n d B U H := ⟨va_Zq.narrow h.1 hAB, vx_L.narrow h.2 hAB⟩
theorem vx_Zqof {args : Array Value} {s : State} {C n d : String} {A : Nat → Prop} (hl : (Cond.laysStatic C n d).before args s = true) (hini : (Cond.initialized C).before args s = true) (h : (Cond.isRef (.static C n d)).before args s = true) (hA : ∀ a : Nat, a < s.heap.size → ¬ A a) : vx_Zq C n d A s s.heap := by
  refine ⟨va_Zqof hl hini h hA, ?_⟩
  obtain ⟨c, k, i, f, a, cell, h1, h2, h3, h4, h5, h6, h7, h8, h9⟩ := Cond.laysStatic_spec hl
  exact ⟨c, k, i, f, a, cell, h1, h2, h3, h4, h5, h6, h7, h8, h9, hA a (Array.getElem?_eq_some_iff.mp h5).1⟩
theorem vx_isRef {C n d : String} {v : Value} {A : Nat → Prop} {s : State} {args : Array Value} (h : va_Z C n d v A s s.heap) (hv : v.isRef = true) : (Cond.isRef (.static C n d)).before args s = true := by
  obtain ⟨cf, kf, fi, f, a, cell, h1, h2, h3, h4, h5, h6, h7, -⟩ := h
  have he : (Term.static C n d).eval args s none [] s = some v := by
    simp [Term.eval, State.fieldNamed?, h1, h2, h4, h5, h6, h7]
  simp only [Cond.before, Cond.holds, Cond.value, he]
  cases v <;> simp_all [Value.isRef]
theorem vx_isRefq {C n d : String} {A : Nat → Prop} {s : State} {args : Array Value} (h : va_Zq C n d A s s.heap) : (Cond.isRef (.static C n d)).before args s = true := by
  rcases h with h | ⟨t, h⟩
  · exact vx_isRef h rfl
  · exact vx_isRef h rfl
/-- the same frame, seen from here: as if the method were called anew in this heap -/
theorem vx_rebase {T : State} (X : Stand p l e R s m args below meth c T locs cells slots) {R' : Room} (hf : R'.frames ≤ R.frames) (hl : R'.locals ≤ R.locals) (hc : cells + R'.cells ≤ R.cells) (hs : slots + R'.slots ≤ R.slots) :
    Stand p l e R' ((T.setVm s.vm).setFrames (.invoking m args :: below)) m args below meth c T [] 0 0 := by
  have htop : (T.setVm s.vm).topJava?.isSome := X.here.top
  have hF : ((T.setVm s.vm).setFrames (.invoking m args :: below)).frames = .invoking m args :: below := State.frames_setFrames _ (State.cur_lt_of_top htop)
  obtain ⟨g₀, hg0⟩ := Option.isSome_iff_exists.mp htop
  obtain ⟨r, hr⟩ := State.topJava?_eq_some.mp hg0
  have hl9 : e.platform.stackLimits (T.setVm s.vm).me = e.platform.stackLimits s.me := X.limits
  have hb9 : (T.setVm s.vm).me.stackBytes = s.me.stackBytes := X.bytes
  refine ⟨X.admits, X.cas, X.clock, hF, ?_, X.hears, X.method, X.code, X.here, X.tail, X.warmed, ?_, ?_, ?_⟩
  · have h := X.room
    have hU : ((T.setVm s.vm).setFrames (.invoking m args :: below)).localsInUse = s.localsInUse := by
      rw [State.localsInUse_invoking hF (meth := meth) (c := c) X.method X.code, State.localsInUse_invoking X.frames X.method X.code]
    simp only [State.hasRoom, Bool.and_eq_true, decide_eq_true_eq] at h ⊢
    obtain ⟨⟨⟨⟨h1, h2, h3, h4, h5, h6⟩, h7⟩, h8⟩, h9⟩ := h
    rw [X.frames, List.length_cons] at h2 h3
    have q1 := X.heapSize
    have q2 := X.used
    simp only [hF, hU, List.length_cons, State.stackLimits_setFrames, State.stackBytes_setFrames, hl9, hb9]
    refine ⟨⟨⟨⟨by omega, by omega, by omega, by omega, by omega, h6⟩, ?_⟩, ?_⟩, X.book⟩
    · show T.heap.size + R'.cells ≤ e.platform.maxCells
      omega
    · show T.slotsUsed + R'.slots ≤ e.platform.maxSlots
      omega
  · rw [State.stackLimits_setFrames]; rfl
  · rw [State.stackBytes_setFrames]; rfl
  · refine ⟨?_, Nat.le_refl _, Nat.le_refl _, ?_, ?_, fun a c9 h9 => ⟨c9, h9, rfl, rfl, fun _ _ => rfl⟩⟩
    · obtain ⟨t, ht, -⟩ := State.frames_cons hr
      show T.setVm s.vm = { ((T.setVm s.vm).setFrames (.invoking m args :: below)).setFrames (T.setVm s.vm).frames with heap := T.heap, slotsUsed := T.slotsUsed }
      rw [State.setFrames_setFrames, State.setFrames_self ht]
      rfl
    · show T.slotsUsed = T.slotsUsed + ((T.heap.toList.drop T.heap.size).map (·.slots.size)).sum
      rw [List.drop_eq_nil_of_le (Nat.le_of_eq Array.length_toList)]
      rfl
    · show ((T.heap.toList.drop T.heap.size).map (·.slots.size)).sum ≤ 0
      rw [List.drop_eq_nil_of_le (Nat.le_of_eq Array.length_toList)]
      exact Nat.le_refl _
/-- 'throw new E()': new; dup; invokespecial; athrow -/
theorem vx_throw0 {cc : ByteArray} {pc : Nat} (hexec : p.tables.exec = Jvm.exec) (hb : c.code = cc) (hl : l.stackTraces = false) {own cls : String} {names : List String} {ik ic mc ms : Nat} {A : Nat → Prop}
    (hown : s.vm.findClass own = some m.cls) (hcls : Bundle.fit cls = true) (hnames : ∀ n ∈ names, Bundle.fit n = true)
    (hk : (Cond.classLink own ik cls).before args s = true) (hini : (Cond.initialized cls).before args s = true) (hat : ∀ w ∈ vx_at0 own ic cls names, w.before args s = true)
    (hgood : ∀ w ∈ Cond.classLink own ik cls :: Cond.initialized cls :: vx_at0 own ic cls names, vx_ot w = true)
    (hU : vx_Zq Bundle.tN "UNASSIGNED_STACK" Bundle.steD A s s.heap) (hN : vx_Zq Bundle.tN "SUPPRESSED_SENTINEL" Bundle.listD A s s.heap) (hS : va_S A s.heap H locs) (hsize : ls.size = c.maxLocals)
    (d0 : decode cc pc = .ok (.new ik, 3)) (d3 : decode cc (pc + 3) = .ok (.dup, 1)) (d4 : decode cc (pc + 4) = .ok (.invokespecial ic, 3)) (d7 : decode cc (pc + 7) = .ok (.athrow, 1))
    (hout : ∀ x ∈ c.exceptionTable.toList, covers x (pc + 7) = false)
    (hRframes : names.length + 3 < R.frames) (hRlocals : (rest.map fun v => v.category).sum + (13 * (names.length + 1) + 42) ≤ R.locals) (hRcells : cells + 1 ≤ R.cells) (hRslots : slots + 6 ≤ R.slots) (hlocks : meth.locks = false)
    (hx : ∀ t : State, s.vm.Alike t.vm → H.size ≤ t.heap.size → (∀ q : Nat, q < H.size → t.heap[q]? = H[q]?) → XC cls s t)
    (hf : ∀ z ∈ locs, free z.base) (hc : cells + 1 ≤ mc) (hs : slots + 6 ≤ ms) :
    W p l e R s m args below meth c H locs cells slots (vx_MQ below Qc XC args s mc ms free) (F0 m pc ls rest) := by
  intro T hT X
  have htr : e.platform.stackTraces = false := (show e.platform.stackTraces = l.stackTraces by rw [X.admits.platform]).trans hl
  have Y := vx_rebase X (R' := { frames := R.frames, locals := R.locals, cells := 1, slots := 6 }) (Nat.le_refl _) (Nat.le_refl _) hRcells hRslots
  obtain ⟨s', hA⟩ : ∃ z, z = (T.setVm s.vm).setFrames (.invoking m args :: below) := ⟨_, rfl⟩
  rw [← hA] at Y
  have hvm : s'.vm = s.vm := by rw [hA]; rfl
  have hhp : s'.heap = H := by rw [hA]; exact hT
  have hW0 : s.WarmedH s'.vm := by rw [hvm]; exact State.WarmedH.refl s
  have hat' : ∀ w ∈ vx_at0 own ic cls names, w.before args s' = true := fun w hw => vx_ot_at hW0 hvm.symm (hgood w (List.mem_cons_of_mem _ (List.mem_cons_of_mem _ hw))) (hat w hw)
  have hk' : (Cond.classLink own ik cls).before args s' = true := vx_ot_at hW0 hvm.symm (hgood _ List.mem_cons_self) hk
  have hini' : (Cond.initialized cls).before args s' = true := vx_ot_at hW0 hvm.symm (hgood _ (List.mem_cons_of_mem _ List.mem_cons_self)) hini
  have hU' : vx_Zq Bundle.tN "UNASSIGNED_STACK" Bundle.steD A s' s'.heap := by rw [hhp]; exact vx_Zq.moved hW0.alike (hU.kept hS.2.1)
  have hN' : vx_Zq Bundle.tN "SUPPRESSED_SENTINEL" Bundle.listD A s' s'.heap := by rw [hhp]; exact vx_Zq.moved hW0.alike (hN.kept hS.2.1)
  have h : ∀ w ∈ Bundle.ownAtoms0 own ic cls names, w.before args s' = true := vx_own hat' (vx_isRefq hU'.1) (vx_isRefq hN'.1) hU'.2.word hN'.2.word
  have hown' : s'.vm.findClass own = some m.cls := by rw [hvm]; exact hown
  have hins : (Cond.instantiable cls 6).before args s' = true := h _ (by simp [Bundle.ownAtoms0])
  obtain ⟨vm₁, cX, kX, hfX, hkX, -, -, X₁, st1⟩ := Y.newCold hexec (own := own) (C := cls) (index := ik) (n := 6) hown' hk' hins hini'
    (g := F0 m pc ls rest) rfl (by rw [hb]; exact d0) (Nat.le_refl _) (Nat.le_refl _)
  generalize hT1 : (T.setVm vm₁).pushCell { cls := cX, slots := kX.instanceTypes.map defaultValue, vm := .none } = T1 at X₁ st1
  have hcat : (Value.ref T.heap.size).category = 1 := rfl
  have hcellA : T1.heap[T.heap.size]? = some (freshCell cX kX) := by rw [← hT1]; exact State.heap_pushCell_size _ _
  have d3' : decode c.code (pc + 3) = .ok (.dup, 1) := by rw [hb]; exact d3
  obtain ⟨U, hsteps, hrun, hend, hW, hsame, ce, hce, hO⟩ := X₁.ctorThrow0 hexec htr (own := own) (cls := cls) (names := names) (ic := ic) hown' hcls hnames h (fun x hx => nomatch hx) hfX hkX hcellA (by rw [hhp, hT]; exact Nat.le_refl _)
    (g := { method := m, pc := pc + 4, locals := ls, stack := .ref T.heap.size :: .ref T.heap.size :: rest, locked := none }) rfl hsize rfl rfl (rest := rest) rfl
    (by rw [hb]; exact d4) (by rw [hb]; exact d7) hout hRframes (by simp only [List.map_cons, List.sum_cons, hcat]; omega) hlocks
  obtain ⟨f1, f2⟩ := vx_frame hsame
  rw [hhp] at f1 f2
  have hWs : s.WarmedH U.vm := State.WarmedH.trans hW0 hW
  have hcl : s.vm.findClass cls = some ce.cls := by
    have h9 := hO.cls
    rw [hvm] at h9
    exact h9
  have hall : s.sameButNew ({ U with vm := s.vm } : State) locs mc ms := by
    subst hA
    obtain ⟨e1, e2⟩ := hsame
    rw [State.setFrames_setFrames] at e1
    have h2 : (T.setVm s.vm).sameButNew ({ U with vm := s.vm } : State) [] (0 + 1) (0 + 6) := ⟨e1, e2⟩
    have h3 := X.same.trans h2
    rw [List.append_nil] at h3
    exact h3.mono hc hs
  refine ⟨U, ?_, .threw T.heap.size, hrun, hend, Or.inr ⟨T.heap.size, rfl, cls, ce, locs, hx U hWs.alike f1 (fun q hq => f2 q hq (fun z hz => nomatch hz)), hce, hO.vm, hcl, hWs, hall, hf⟩⟩
  refine st1 _ ?_
  show Steps p.tables e below (T1.setTop { method := m, pc := pc + 3, locals := ls, stack := .ref T.heap.size :: rest, locked := none }) _
  jvm_step X₁.here [X₁.here.top, hexec, d3', Value.category]
  exact hsteps
/-- 'throw new E("text")': new; dup; ldc; invokespecial; athrow -/
theorem vx_throwS {cc : ByteArray} {pc : Nat} (hexec : p.tables.exec = Jvm.exec) (hb : c.code = cc) (hl : l.stackTraces = false) {own cls text : String} {names : List String} {ik is ic mc ms sa : Nat} {A : Nat → Prop}
    (hown : s.vm.findClass own = some m.cls) (hcls : Bundle.fit cls = true) (hnames : ∀ n ∈ names, Bundle.fit n = true)
    (hk : (Cond.classLink own ik cls).before args s = true) (hini : (Cond.initialized cls).before args s = true) (hstr : vk_R own is text sa s) (hat : ∀ w ∈ vx_atS own ic cls names, w.before args s = true)
    (hgood : ∀ w ∈ Cond.classLink own ik cls :: Cond.initialized cls :: vx_atS own ic cls names, vx_ot w = true)
    (hU : vx_Zq Bundle.tN "UNASSIGNED_STACK" Bundle.steD A s s.heap) (hN : vx_Zq Bundle.tN "SUPPRESSED_SENTINEL" Bundle.listD A s s.heap) (hS : va_S A s.heap H locs) (hsize : ls.size = c.maxLocals)
    (d0 : decode cc pc = .ok (.new ik, 3)) (d3 : decode cc (pc + 3) = .ok (.dup, 1)) (d4 : decode cc (pc + 4) = .ok (.ldc is, 2)) (d6 : decode cc (pc + 6) = .ok (.invokespecial ic, 3)) (d9 : decode cc (pc + 9) = .ok (.athrow, 1))
    (hout : ∀ x ∈ c.exceptionTable.toList, covers x (pc + 9) = false)
    (hRframes : names.length + 3 < R.frames) (hRlocals : (rest.map fun v => v.category).sum + (13 * (names.length + 1) + 43) ≤ R.locals) (hRcells : cells + 1 ≤ R.cells) (hRslots : slots + 6 ≤ R.slots) (hlocks : meth.locks = false)
    (hx : ∀ t : State, s.vm.Alike t.vm → H.size ≤ t.heap.size → (∀ q : Nat, q < H.size → t.heap[q]? = H[q]?) → XC cls s t)
    (hf : ∀ z ∈ locs, free z.base) (hc : cells + 1 ≤ mc) (hs : slots + 6 ≤ ms) :
    W p l e R s m args below meth c H locs cells slots (vx_MQ below Qc XC args s mc ms free) (F0 m pc ls rest) := by
  intro T hT X
  have htr : e.platform.stackTraces = false := (show e.platform.stackTraces = l.stackTraces by rw [X.admits.platform]).trans hl
  have Y := vx_rebase X (R' := { frames := R.frames, locals := R.locals, cells := 1, slots := 6 }) (Nat.le_refl _) (Nat.le_refl _) hRcells hRslots
  obtain ⟨s', hA⟩ : ∃ z, z = (T.setVm s.vm).setFrames (.invoking m args :: below) := ⟨_, rfl⟩
  rw [← hA] at Y
  have hvm : s'.vm = s.vm := by rw [hA]; rfl
  have hhp : s'.heap = H := by rw [hA]; exact hT
  have hW0 : s.WarmedH s'.vm := by rw [hvm]; exact State.WarmedH.refl s
  have hat' : ∀ w ∈ vx_atS own ic cls names, w.before args s' = true := fun w hw => vx_ot_at hW0 hvm.symm (hgood w (List.mem_cons_of_mem _ (List.mem_cons_of_mem _ hw))) (hat w hw)
  have hk' : (Cond.classLink own ik cls).before args s' = true := vx_ot_at hW0 hvm.symm (hgood _ List.mem_cons_self) hk
  have hini' : (Cond.initialized cls).before args s' = true := vx_ot_at hW0 hvm.symm (hgood _ (List.mem_cons_of_mem _ List.mem_cons_self)) hini
  have hU' : vx_Zq Bundle.tN "UNASSIGNED_STACK" Bundle.steD A s' s'.heap := by rw [hhp]; exact vx_Zq.moved hW0.alike (hU.kept hS.2.1)
  have hN' : vx_Zq Bundle.tN "SUPPRESSED_SENTINEL" Bundle.listD A s' s'.heap := by rw [hhp]; exact vx_Zq.moved hW0.alike (hN.kept hS.2.1)
  have h : ∀ w ∈ Bundle.ownAtoms own ic cls names, w.before args s' = true := vx_own hat' (vx_isRefq hU'.1) (vx_isRefq hN'.1) hU'.2.word hN'.2.word
  have hown' : s'.vm.findClass own = some m.cls := by rw [hvm]; exact hown
  have hins : (Cond.instantiable cls 6).before args s' = true := h _ (by simp [Bundle.ownAtoms])
  obtain ⟨vm₁, cX, kX, hfX, hkX, -, -, X₁, st1⟩ := Y.newCold hexec (own := own) (C := cls) (index := ik) (n := 6) hown' hk' hins hini'
    (g := F0 m pc ls rest) rfl (by rw [hb]; exact d0) (Nat.le_refl _) (Nat.le_refl _)
  generalize hT1 : (T.setVm vm₁).pushCell { cls := cX, slots := kX.instanceTypes.map defaultValue, vm := .none } = T1 at X₁ st1
  have hcat : (Value.ref T.heap.size).category = 1 := rfl
  have hcellA : T1.heap[T.heap.size]? = some (freshCell cX kX) := by rw [← hT1]; exact State.heap_pushCell_size _ _
  have d3' : decode c.code (pc + 3) = .ok (.dup, 1) := by rw [hb]; exact d3
  have d4' : decode c.code (pc + 4) = .ok (.ldc is, 2) := by rw [hb]; exact d4
  have hstr' : vk_R own is text sa s' := vk_R.warm hW0 hstr
  obtain ⟨U, hsteps, hrun, hend, hW, hsame, ce, hce, hO⟩ := X₁.ctorThrowS hexec htr (own := own) (cls := cls) (names := names) (ic := ic) hown' hcls hnames h (fun x hx => nomatch hx) hfX hkX hcellA (by rw [hhp, hT]; exact Nat.le_refl _) (msg := .ref sa) rfl
    (g := { method := m, pc := pc + 6, locals := ls, stack := .ref sa :: .ref T.heap.size :: .ref T.heap.size :: rest, locked := none }) rfl hsize rfl rfl (rest := rest) rfl
    (by rw [hb]; exact d6) (by rw [hb]; exact d9) hout hRframes (by simp only [List.map_cons, List.sum_cons, hcat]; omega) hlocks
  obtain ⟨f1, f2⟩ := vx_frame hsame
  rw [hhp] at f1 f2
  have hWs : s.WarmedH U.vm := State.WarmedH.trans hW0 hW
  have hcl : s.vm.findClass cls = some ce.cls := by
    have h9 := hO.cls
    rw [hvm] at h9
    exact h9
  have hall : s.sameButNew ({ U with vm := s.vm } : State) locs mc ms := by
    subst hA
    obtain ⟨e1, e2⟩ := hsame
    rw [State.setFrames_setFrames] at e1
    have h2 : (T.setVm s.vm).sameButNew ({ U with vm := s.vm } : State) [] (0 + 1) (0 + 6) := ⟨e1, e2⟩
    have h3 := X.same.trans h2
    rw [List.append_nil] at h3
    exact h3.mono hc hs
  refine ⟨U, ?_, .threw T.heap.size, hrun, hend, Or.inr ⟨T.heap.size, rfl, cls, ce, locs, hx U hWs.alike f1 (fun q hq => f2 q hq (fun z hz => nomatch hz)), hce, hO.vm, hcl, hWs, hall, hf⟩⟩
  refine st1 _ ?_
  show Steps p.tables e below (T1.setTop { method := m, pc := pc + 3, locals := ls, stack := .ref T.heap.size :: rest, locked := none }) _
  jvm_step X₁.here [X₁.here.top, hexec, d3', Value.category]
  exact X₁.ldcString hexec (own := own) (text := text) (index := is) (a := sa) hown' hstr'.1 hstr'.2
    (g := { method := m, pc := pc + 4, locals := ls, stack := .ref T.heap.size :: .ref T.heap.size :: rest, locked := none }) rfl d4' _ hsteps
/-- 'throw new E("text")', the text by a wide index -/
theorem vx_throwSW {cc : ByteArray} {pc : Nat} (hexec : p.tables.exec = Jvm.exec) (hb : c.code = cc) (hl : l.stackTraces = false) {own cls text : String} {names : List String} {ik is ic mc ms sa : Nat} {A : Nat → Prop}
    (hown : s.vm.findClass own = some m.cls) (hcls : Bundle.fit cls = true) (hnames : ∀ n ∈ names, Bundle.fit n = true)
    (hk : (Cond.classLink own ik cls).before args s = true) (hini : (Cond.initialized cls).before args s = true) (hstr : vk_R own is text sa s) (hat : ∀ w ∈ vx_atS own ic cls names, w.before args s = true)
    (hgood : ∀ w ∈ Cond.classLink own ik cls :: Cond.initialized cls :: vx_atS own ic cls names, vx_ot w = true)
    (hU : vx_Zq Bundle.tN "UNASSIGNED_STACK" Bundle.steD A s s.heap) (hN : vx_Zq Bundle.tN "SUPPRESSED_SENTINEL" Bundle.listD A s s.heap) (hS : va_S A s.heap H locs) (hsize : ls.size = c.maxLocals)
    (d0 : decode cc pc = .ok (.new ik, 3)) (d3 : decode cc (pc + 3) = .ok (.dup, 1)) (d4 : decode cc (pc + 4) = .ok (.ldc_w is, 3)) (d7 : decode cc (pc + 7) = .ok (.invokespecial ic, 3)) (d10 : decode cc (pc + 10) = .ok (.athrow, 1))
    (hout : ∀ x ∈ c.exceptionTable.toList, covers x (pc + 10) = false)
    (hRframes : names.length + 3 < R.frames) (hRlocals : (rest.map fun v => v.category).sum + (13 * (names.length + 1) + 43) ≤ R.locals) (hRcells : cells + 1 ≤ R.cells) (hRslots : slots + 6 ≤ R.slots) (hlocks : meth.locks = false)
    (hx : ∀ t : State, s.vm.Alike t.vm → H.size ≤ t.heap.size → (∀ q : Nat, q < H.size → t.heap[q]? = H[q]?) → XC cls s t)
    (hf : ∀ z ∈ locs, free z.base) (hc : cells + 1 ≤ mc) (hs : slots + 6 ≤ ms) :
    W p l e R s m args below meth c H locs cells slots (vx_MQ below Qc XC args s mc ms free) (F0 m pc ls rest) := by
  intro T hT X
  have htr : e.platform.stackTraces = false := (show e.platform.stackTraces = l.stackTraces by rw [X.admits.platform]).trans hl
  have Y := vx_rebase X (R' := { frames := R.frames, locals := R.locals, cells := 1, slots := 6 }) (Nat.le_refl _) (Nat.le_refl _) hRcells hRslots
  obtain ⟨s', hA⟩ : ∃ z, z = (T.setVm s.vm).setFrames (.invoking m args :: below) := ⟨_, rfl⟩
  rw [← hA] at Y
  have hvm : s'.vm = s.vm := by rw [hA]; rfl
  have hhp : s'.heap = H := by rw [hA]; exact hT
  have hW0 : s.WarmedH s'.vm := by rw [hvm]; exact State.WarmedH.refl s
  have hat' : ∀ w ∈ vx_atS own ic cls names, w.before args s' = true := fun w hw => vx_ot_at hW0 hvm.symm (hgood w (List.mem_cons_of_mem _ (List.mem_cons_of_mem _ hw))) (hat w hw)
  have hk' : (Cond.classLink own ik cls).before args s' = true := vx_ot_at hW0 hvm.symm (hgood _ List.mem_cons_self) hk
  have hini' : (Cond.initialized cls).before args s' = true := vx_ot_at hW0 hvm.symm (hgood _ (List.mem_cons_of_mem _ List.mem_cons_self)) hini
  have hU' : vx_Zq Bundle.tN "UNASSIGNED_STACK" Bundle.steD A s' s'.heap := by rw [hhp]; exact vx_Zq.moved hW0.alike (hU.kept hS.2.1)
  have hN' : vx_Zq Bundle.tN "SUPPRESSED_SENTINEL" Bundle.listD A s' s'.heap := by rw [hhp]; exact vx_Zq.moved hW0.alike (hN.kept hS.2.1)
  have h : ∀ w ∈ Bundle.ownAtoms own ic cls names, w.before args s' = true := vx_own hat' (vx_isRefq hU'.1) (vx_isRefq hN'.1) hU'.2.word hN'.2.word
  have hown' : s'.vm.findClass own = some m.cls := by rw [hvm]; exact hown
  have hins : (Cond.instantiable cls 6).before args s' = true := h _ (by simp [Bundle.ownAtoms])
  obtain ⟨vm₁, cX, kX, hfX, hkX, -, -, X₁, st1⟩ := Y.newCold hexec (own := own) (C := cls) (index := ik) (n := 6) hown' hk' hins hini'
    (g := F0 m pc ls rest) rfl (by rw [hb]; exact d0) (Nat.le_refl _) (Nat.le_refl _)
  generalize hT1 : (T.setVm vm₁).pushCell { cls := cX, slots := kX.instanceTypes.map defaultValue, vm := .none } = T1 at X₁ st1
  have hcat : (Value.ref T.heap.size).category = 1 := rfl
  have hcellA : T1.heap[T.heap.size]? = some (freshCell cX kX) := by rw [← hT1]; exact State.heap_pushCell_size _ _
  have d3' : decode c.code (pc + 3) = .ok (.dup, 1) := by rw [hb]; exact d3
  have d4' : decode c.code (pc + 4) = .ok (.ldc_w is, 3) := by rw [hb]; exact d4
  have hstr' : vk_R own is text sa s' := vk_R.warm hW0 hstr
  obtain ⟨U, hsteps, hrun, hend, hW, hsame, ce, hce, hO⟩ := X₁.ctorThrowS hexec htr (own := own) (cls := cls) (names := names) (ic := ic) hown' hcls hnames h (fun x hx => nomatch hx) hfX hkX hcellA (by rw [hhp, hT]; exact Nat.le_refl _) (msg := .ref sa) rfl
    (g := { method := m, pc := pc + 7, locals := ls, stack := .ref sa :: .ref T.heap.size :: .ref T.heap.size :: rest, locked := none }) rfl hsize rfl rfl (rest := rest) rfl
    (by rw [hb]; exact d7) (by rw [hb]; exact d10) hout hRframes (by simp only [List.map_cons, List.sum_cons, hcat]; omega) hlocks
  obtain ⟨f1, f2⟩ := vx_frame hsame
  rw [hhp] at f1 f2
  have hWs : s.WarmedH U.vm := State.WarmedH.trans hW0 hW
  have hcl : s.vm.findClass cls = some ce.cls := by
    have h9 := hO.cls
    rw [hvm] at h9
    exact h9
  have hall : s.sameButNew ({ U with vm := s.vm } : State) locs mc ms := by
    subst hA
    obtain ⟨e1, e2⟩ := hsame
    rw [State.setFrames_setFrames] at e1
    have h2 : (T.setVm s.vm).sameButNew ({ U with vm := s.vm } : State) [] (0 + 1) (0 + 6) := ⟨e1, e2⟩
    have h3 := X.same.trans h2
    rw [List.append_nil] at h3
    exact h3.mono hc hs
  refine ⟨U, ?_, .threw T.heap.size, hrun, hend, Or.inr ⟨T.heap.size, rfl, cls, ce, locs, hx U hWs.alike f1 (fun q hq => f2 q hq (fun z hz => nomatch hz)), hce, hO.vm, hcl, hWs, hall, hf⟩⟩
  refine st1 _ ?_
  show Steps p.tables e below (T1.setTop { method := m, pc := pc + 3, locals := ls, stack := .ref T.heap.size :: rest, locked := none }) _
  jvm_step X₁.here [X₁.here.top, hexec, d3', Value.category]
  exact X₁.ldcStringW hexec (own := own) (text := text) (index := is) (a := sa) hown' hstr'.1 hstr'.2
    (g := { method := m, pc := pc + 4, locals := ls, stack := .ref T.heap.size :: .ref T.heap.size :: rest, locked := none }) rfl d4' _ hsteps
end Ends
section Bodies
variable {l : Launch}
theorem vx_ofW {y : MethodName} {ws ws' : List Cond} {rm : Room} {Pc : Array Value → State → Prop} {Qc : Array Value → State → Outcome → State → Prop} {XC : String → State → State → Prop} {mc ms : Nat} {free : Addr → Prop} {cc : ByteArray} {maxL : Nat} {ret : Option FieldType}
    (hy : plainName y.cls = true) (hw : ws = Cond.code y cc maxL ret :: ws')
    (body : ∀ p e s m args below meth c s₁, BodyLoose p l y (headSpec ws rm) cc maxL ret e s m args below meth c s₁ → c.maxLocals = maxL → (∀ x ∈ c.exceptionTable.toList, False) → Pc args s →
      W p l e (headSpec ws rm).room s m args below meth c s.heap [] 0 0 (vx_MQ below Qc XC args s mc ms free) (entryFrame m args maxL)) : vx_Met l y ws rm Pc Qc XC mc ms free := by
  refine MetFree.of_bodyS (code := cc) (maxLocals := maxL) (ret := ret) hy ?_ ?_
  · intro args s m h hn
    obtain ⟨meth, c, h1, h2, h3, h4, h5, h6, -, -⟩ := Cond.code_spec hn (atoms_spec (ws := ws) h _ (by rw [hw]; exact List.mem_cons_self))
    exact ⟨meth, c, h1, h2, h3, h4, h5, h6⟩
  · intro p e s m args below meth c s₁ B hml hP _
    have hh0 : s₁.heap = s.heap := by rw [B.state]; rfl
    have ht : ∀ x ∈ c.exceptionTable.toList, False := by
      obtain ⟨meth9, c9, h1, h2, -, -, -, -, h7, -⟩ := Cond.code_spec B.named (atoms_spec (ws := ws) B.pre _ (by rw [hw]; exact List.mem_cons_self))
      cases Option.some.inj (h1.symm.trans B.method)
      cases Option.some.inj (h2.symm.trans (Stand.of_body B).code)
      intro x hx
      rw [Array.isEmpty_iff.mp h7] at hx
      cases hx
    obtain ⟨t, a1, o, b1, b2, b3⟩ := body p e s m args below meth c s₁ B hml ht hP s₁ hh0 (Stand.of_body B)
    exact ⟨t, o, a1, b1, b2, b3⟩
/-- the table of a body with handlers -/
theorem vx_table {p : Program} {x y : MethodName} {S : Spec} {cc bytes : ByteArray} {maxL maxL' : Nat} {ret ret' : Option FieldType} {e : Env} {s s₁ : State} {m : MethodId} {args : Array Value} {below : List Frame} {meth : Method} {c : Code} {hh : List (Nat × Nat × Nat × Nat)}
    (B : BodyLoose p l y S cc maxL ret e s m args below meth c s₁) (h : (Cond.codeWith y bytes maxL' ret' hh).before args s = true) : c.exceptionTable.toList = tableOf hh := by
  obtain ⟨m9, meth9, c9, hn9, h1, h2, -, -, h6, -⟩ := Cond.codeWith_spec h
  cases Option.some.inj (hn9.symm.trans B.named)
  cases Option.some.inj (h1.symm.trans B.method)
  cases Option.some.inj (h2.symm.trans (Stand.of_body B).code)
  rw [← h6, table_eq]
end Bodies
end VXA
/-! ===== END ===== -/
/-! ===== BEGIN a static call of a method with an exception table ===== -/
section VXS
variable {p : Program} {l : Launch} {e : Env} {R : Room} {s : State} {m : MethodId} {args : Array Value} {below : List Frame} {meth : Method} {c : Code} {T : State} {H : Heap} {locs : List Loc} {cells slots : Nat}
abbrev vx_CSW (R : Room) (s : State) (args : Array Value) (own : String) (index : Nat) (y : MethodName) (bytes : ByteArray) (maxL : Nat) (ret : Option FieldType) (hh : List (Nat × Nat × Nat × Nat)) (ws : List Cond) (rm : Room) (mc ms n : Nat) : Prop :=
  (rm.cells = mc ∧ rm.slots = ms ∧ rm.frames + 1 ≤ R.frames ∧ 8 + (maxL + 11) + rm.locals ≤ R.locals ∧ (∀ w ∈ ws, ∀ (a' : Array Value) (U : State), s.WarmedH U.vm → w.before a' U = true) ∧ Cond.codeWith y bytes maxL ret hh ∈ ws) ∧
  (Cond.codeWith y bytes maxL ret hh).before args s = true ∧ (Cond.initialized y.cls).before args s = true ∧ (y.cls ≠ "java/lang/invoke/MethodHandle" ∧ y.cls ≠ "java/lang/invoke/VarHandle") ∧
  (∀ sig, parseMethodDescriptor y.desc = some sig → n = sig.parameters.length) ∧ (Cond.methodLink own index y).before args s = true ∧ (Cond.static y).before args s = true
theorem vx_cwSW {own : String} {index maxL mc ms : Nat} {y : MethodName} {bytes : ByteArray} {ret : Option FieldType} {hh : List (Nat × Nat × Nat × Nat)} {Ts ws ws' : List Cond} {rm : Room} (n : Nat) (ht : ∀ w ∈ Ts, w.before args s = true) (hT : GoodIn Ts (va_wsS own index y ws)) (hw : ws = Cond.codeWith y bytes maxL ret hh :: ws') (hrc : rm.cells = mc) (hrs : rm.slots = ms)
    (hd : y.cls ≠ "java/lang/invoke/MethodHandle" ∧ y.cls ≠ "java/lang/invoke/VarHandle" ∧ (parseMethodDescriptor y.desc).map (fun d => d.parameters.length) = some n) (hR : rm.frames + 1 ≤ R.frames ∧ 8 + (maxL + 11) + rm.locals ≤ R.locals) :
    vx_CSW R s args own index y bytes maxL ret hh ws rm mc ms n := by
  have ok : ∀ w ∈ va_wsS own index y ws, w.before args s = true := fun w h => ht w (hT w h).1
  have hG : GoodIn Ts ws := fun w h => hT w (by unfold va_wsS; exact List.mem_append_right _ h)
  have hc : Cond.codeWith y bytes maxL ret hh ∈ ws := by rw [hw]; exact List.mem_cons_self
  refine ⟨⟨hrc, hrs, hR.1, hR.2, pay_in ht hG, hc⟩, ht _ (hG _ hc).1, ok _ (by simp [va_wsS]), ⟨hd.1, hd.2.1⟩, fun sig h => ?_, ok _ (by simp [va_wsS]), ok _ (by simp [va_wsS])⟩
  have h2 := hd.2.2
  rw [h] at h2
  exact (Option.some.inj h2).symm
theorem vx_callSW (X : Stand p l e R s m args below meth c T locs cells slots) (hexec : p.tables.exec = Jvm.exec) {own : String} {index : Nat} {y : MethodName} {bytes : ByteArray} {maxL : Nat} {ret : Option FieldType} {hh : List (Nat × Nat × Nat × Nat)}
    (hown : s.vm.findClass own = some m.cls) (hlink : (Cond.methodLink own index y).before args s = true) (hstat : (Cond.static y).before args s = true) (hinit : (Cond.initialized y.cls).before args s = true)
    (hcode : (Cond.codeWith y bytes maxL ret hh).before args s = true) (hy : y.cls ≠ "java/lang/invoke/MethodHandle" ∧ y.cls ≠ "java/lang/invoke/VarHandle")
    {W9 : Nat} {Pre : Pt → Array Value → Prop} {Post : Pt → Array Value → Option Value → Pt → Prop} (hK : Back l R p e below s args y 3 W9 Pre Post)
    {g : JFrame} (hg : g.method = m) (hsize : g.locals.size = c.maxLocals) {argsL rest : List Value} (hlen : ∀ sig, parseMethodDescriptor y.desc = some sig → argsL.length = sig.parameters.length)
    (hstack : g.stack = argsL.reverse ++ rest) (hW : 2 * g.monitorRoom + (rest.map fun v => v.category).sum ≤ W9) (hdg : decode c.code g.pc = .ok (.invokestatic index, 3))
    (hpre : ∀ vm₁, s.WarmedH vm₁ → Pre ⟨T.setVm vm₁, locs, cells, slots⟩ argsL.toArray) :
    ∃ (v : Option Value) (vm₁ : Vm) (B : Pt), s.WarmedH vm₁ ∧ Stand p l e R s m args below meth c B.U B.locs B.cells B.slots ∧ Post ⟨T.setVm vm₁, locs, cells, slots⟩ argsL.toArray v B ∧
      ∀ target, Steps p.tables e below (B.U.setTop { g with pc := g.pc + 3, stack := v.toList ++ rest }) target → Steps p.tables e below (T.setTop g) target := by
  obtain ⟨mk, methM, cM, hnamed, hmethM, -, -, -, -, -, -, hsigM⟩ := Cond.codeWith_spec hcode
  have hstatic : methM.isStatic = true := Cond.static_spec hnamed hmethM hstat
  obtain ⟨kP, hkP, -⟩ := className_of_methodNamed hnamed
  have hinitP : kP.init = .initialized := Cond.initialized_spec (findClass_of_methodNamed hnamed) hkP hinit
  obtain ⟨vm₁, X₁, hstep₁⟩ := X.invokestatic hexec hown hlink hnamed hmethM hstatic hkP hinitP hy (g := g) hg (argsL := argsL) (rest := rest) (hlen _ hsigM) hstack hdg
  obtain ⟨v, B, X', hpost, hsteps⟩ := hK m meth c ⟨T.setVm vm₁, locs, cells, slots⟩ { g with stack := rest } (.invokestatic index) mk argsL.toArray X₁ hg hsize hdg hW (X₁.named hnamed) (hpre vm₁ X₁.warmed)
  exact ⟨v, vm₁, B, X₁.warmed, X', hpost, fun target h => hstep₁ _ fun acts => by rw [doInvoke_state]; exact hsteps.trans h⟩
theorem vx_runSW {y : MethodName} {bytes cc : ByteArray} {maxL nL mc ms n index : Nat} {ret : Option FieldType} {hh : List (Nat × Nat × Nat × Nat)} {ws : List Cond} {rm : Room} {Pc : Array Value → State → Prop} {Qc : Array Value → State → Outcome → State → Prop} {free : Addr → Prop} {Ts : List Cond} {own : String} {As rest : List Value} {g : JFrame}
    (S : CallFix p m c cc nL s args Ts own) (hM : Met l y ws rm Pc Qc mc ms free) (cw : vx_CSW R s args own index y bytes maxL ret hh ws rm mc ms n) (hp : PreS s H Pc As)
    (hg : g.method = m) (hn : As.length = n) (hsize : g.locals.size = nL) (hstack : g.stack = As.reverse ++ rest) (hW : 2 * g.monitorRoom + (rest.map fun v => v.category).sum ≤ 8) (hdg : decode cc g.pc = .ok (.invokestatic index, 3)) (hf : cells + mc ≤ R.cells ∧ slots + ms ≤ R.slots) :
    va_Run p l e R s m args below meth c H locs cells slots mc ms g rest (Qc As.toArray) (free) := by
  obtain ⟨⟨hrc, hrs, hfr, hlo, hws, hcw⟩, hcode, hini, hy, hlen, hl, hstt⟩ := cw
  have hK : Back l R p e below s args y 3 8 (PreOf R mc ms Pc) (PostOf Qc mc ms free) := va_backW (hh := hh) (bytes := bytes) (maxL := maxL) (ret := ret) hM hp.1 hrc hrs hfr hlo hws hcw (fun a' U hW => word_at hW (Or.inl (by first | rfl | simp [Cond.onTables, Cond.keeps, Cond.steady])) hini)
  obtain ⟨hx, hb, hml, ho, -⟩ := S
  intro T hT X
  obtain ⟨v, vm₁, ⟨U', l2, c2, s2⟩, hW₁, X', ⟨g', mk, t, L, e1, e2, hq, h1, hL, h2, h3⟩, st⟩ := vx_callSW X hx (hh := hh) (bytes := bytes) (maxL := maxL) (ret := ret) ho hl hstt hini hcode hy hK hg (hsize.trans hml.symm) (argsL := As) (rest := rest) (fun sig h => hn.trans (hlen sig h)) hstack hW (by rw [hb]; exact hdg)
    (fun vm₁ hW₁ => ⟨hf.1, hf.2, hp.2 (T.setVm vm₁) hT hW₁⟩)
  dsimp only [Pt.U, Pt.locs, Pt.cells, Pt.slots] at X' e1 e2 h1 h2 h3 st
  subst h1; subst h2; subst h3
  exact ⟨v, (T.setVm vm₁).calling g' mk As.toArray, t, U', L, hT, X', hL, e1, e2, hq, st⟩
/-- not caught here, past rows that name other classes: it goes on to the caller -/
theorem vx_outP {p : Program} {l : Launch} {e : Env} {R : Room} {s : State} {m : MethodId} {args : Array Value} {below : List Frame} {meth : Method} {c : Code} {H : Heap} {locs : List Loc} {cells slots : Nat} {free : Addr → Prop} {ls : Array Slot} {rest : List Value} {Qc : Array Value → State → Outcome → State → Prop} {XC : String → State → State → Prop}
    {pc : Nat} {own E : String} {ce : Cell} {q : Addr} {mc ms : Nat} (hown : s.vm.findClass own = some m.cls) (hlocks : meth.locks = false)
    (hpass : ∀ z ∈ c.exceptionTable.toList, covers z pc = false ∨ (z.catchType ≠ 0 ∧ ∃ nm : String, (Cond.classLink own z.catchType nm).before args s = true ∧ va_Nc E nm s)) (hcell : H[q]? = some ce) (hv : ce.vm = .none) (hcl : s.vm.findClass E = some ce.cls)
    (hx : ∀ t : State, t.heap = H → s.vm.Alike t.vm → XC E s t) (hf : ∀ z ∈ locs, free z.base) (hc : cells ≤ mc) (hs : slots ≤ ms) :
    vx_W p l e R s m args below meth c H locs cells slots (vx_MQ below Qc XC args s mc ms free) (F0 m pc ls rest) q := by
  intro T hT X
  have hpl : e.platform.magicAccessors = ({} : Platform).magicAccessors := by rw [X.admits.platform]
  obtain ⟨vm', hW', X', st⟩ := X.outThrough hlocks q (g := F0 m pc ls rest) rfl rfl rfl (cell := ce) (by rw [hT]; exact hcell) (by rw [hv]; rfl)
    (by obtain ⟨k9, h9, -⟩ := Vm.findClass_spec hcl; exact ⟨k9, h9⟩) (fun z hz => by
      rcases hpass z hz with h | ⟨hz0, nm, hl1, hn1⟩
      · exact Or.inl h
      · obtain ⟨c6, hc6, hcl6⟩ := Cond.classLink_spec hown hl1 e.platform hpl
        obtain ⟨a8, b8, h1, h2, h3⟩ := hn1
        cases Option.some.inj (h1.symm.trans hcl)
        cases Option.some.inj (h2.symm.trans hc6)
        exact Or.inr ⟨hz0, _, hcl6, h3⟩)
  obtain ⟨g₀, hfr⟩ := X'.frames_eq
  have hcell9 : ((T.setVm vm').setFrames (.throwing q :: below)).heap[q]? = some ce := by
    show T.heap[q]? = some ce
    rw [hT]; exact hcell
  have hend : Ended ((T.setVm vm').setFrames (.throwing q :: below)) below (.threw q) := State.frames_setFrames _ (State.cur_lt_of_frames hfr)
  refine ⟨(T.setVm vm').setFrames (.throwing q :: below), ?_, .threw q, X'.here.running, hend, Or.inr ⟨q, rfl, E, ce, locs, hx _ hT (X'.ends _).1.alike, hcell9, hv, hcl, (X'.ends _).1, (X'.ends _).2.mono hc hs, hf⟩⟩
  rw [X.pushThrowing_eq]
  exact st
/-- a thing of a world lies in the heap -/
theorem vx_lt {D : va_G} {cl : List vw_C} {ws : va_W} {H1 : Heap} (h : va_P D cl ws H1) {k : Nat} {q : Nat × va_E} (hk : ws[k]? = some q) : q.1 < H1.size := (h k q hk).lt
end VXS
/-! ===== END ===== -/
/-! ===== BEGIN methods with a table of their own: called by a name, returning or throwing ===== -/
section VXH
/-! vx_backW, vx_callVX, vx_callSX, vx_callVW, vx_runVW, vx_runVX, vx_runSX, vx_ofWH follow the same proofs as their sisters above (Free/Laws.lean, Shelf42/LK1.lean); vx_outP calls Shelf42/NT130.lean (outThrough). -/
section
variable {l : Launch} {R : Room} {p : Program} {e : Env} {below : List Frame} {s : State} {sargs : Array Value} {y : MethodName} {len W9 : Nat}
theorem vx_backW {ws : List Cond} {rm : Room} {Pc : Array Value → State → Prop} {Qc : Array Value → State → Outcome → State → Prop} {XC : String → State → State → Prop} {mc ms : Nat} {free : Addr → Prop} {bytes : ByteArray} {maxL : Nat} {ret : Option FieldType} {hh : List (Nat × Nat × Nat × Nat)}
    (hM : vx_Met l y ws rm Pc Qc XC mc ms free) (hblind : FrameBlind Pc) (hrc : rm.cells = mc) (hrs : rm.slots = ms)
    (hframes : rm.frames + 1 ≤ R.frames) (hlocals : W9 + (maxL + 11) + rm.locals ≤ R.locals)
    (hws : ∀ w ∈ ws, ∀ a' U, s.WarmedH U.vm → w.before a' U = true) (hcode : Cond.codeWith y bytes maxL ret hh ∈ ws) (hinit : ∀ a' U, s.WarmedH U.vm → (Cond.initialized y.cls).before a' U = true) :
    vx_Back l R p e below s sargs y len W9 (PreOf R mc ms Pc) (PostOf Qc mc ms free) (vx_Post XC mc ms free) := by
  intro m meth c A g ig mk a X hg hsize hdg hW hn hp
  have h1 : (headSpec ws rm).pre.before a A.U = true := atoms_intro fun w hw => hws w hw _ _ X.warmed
  have h2 : (Cond.codeWith y bytes maxL ret hh).before a A.U = true := hws _ hcode _ _ X.warmed
  have h3 : (Cond.initialized y.cls).before a A.U = true := hinit _ _ X.warmed
  have h4 : A.cells + (headSpec ws rm).room.cells ≤ R.cells := by rw [show (headSpec ws rm).room.cells = mc from hrc]; exact hp.1
  have h5 : A.slots + (headSpec ws rm).room.slots ≤ R.slots := by rw [show (headSpec ws rm).room.slots = ms from hrs]; exact hp.2.1
  have hPc : Pc a (A.U.calling g mk a) := hblind _ _ _ _ hp.2.2
  obtain ⟨U, Ls, c0, s0⟩ := A
  dsimp only [Pt.U, Pt.locs, Pt.cells, Pt.slots] at h1 h2 h3 h4 h5 X hn hPc ⊢
  obtain ⟨m9, methY, cY, hn9, hmY, hcY, -, hlY, -⟩ := Cond.codeWith_spec h2
  cases Option.some.inj (hn9.symm.trans hn)
  obtain ⟨kY, hkY, -⟩ := className_of_methodNamed hn
  have hinitY : kY.init = .initialized := Cond.initialized_spec (findClass_of_methodNamed hn) hkY h3
  have h : At U g.method c below := by rw [hg]; exact X.here
  have hlocals9 : W9 + (maxL + 11) + (headSpec ws rm).room.locals ≤ R.locals := hlocals
  have happ : (headSpec ws rm).appliesLoose y e.platform (U.calling g mk a) = true :=
    Spec.appliesLoose_calling (g := g) h hdg hn hkY hinitY
      (X.room_calling (g := g) (R' := (headSpec ws rm).room) hsize hmY hcY hframes (by rw [hlY]; omega) h4 h5) h1
  obtain ⟨mid, hmid⟩ := h.above
  have hfr : (U.setTop g).frames = (.java g :: mid) ++ below := by rw [State.frames_setTop' g h.top, hmid]; rfl
  obtain ⟨o, s₂, hsteps, -, hend, hq⟩ := Steps.callFree hM p X.admits X.cas X.clock (acts := []) hfr happ hPc trivial
  have hq' : vx_Q Qc XC mc ms free a (U.calling g mk a) o s₂ := hq
  rw [State.frames_setTop' g h.top] at hend
  obtain ⟨g₀, hg0⟩ := Option.isSome_iff_exists.mp h.top
  obtain ⟨r, hr⟩ := State.topJava?_eq_some.mp hg0
  have hr' : (({ U with heap := s₂.heap, slotsUsed := s₂.slotsUsed } : State).setVm s₂.vm).frames = .java g₀ :: r := hr
  rcases hq' with ⟨hqc, L, hfe, hL⟩ | ⟨q, rfl, E, ce, L, hx, hce, hcv, hcl, hW₂, hsm, hL⟩
  · obtain ⟨⟨v, rfl⟩, hW₂, e2, q2, q3, q4, q5, q6⟩ := id hfe
    have e3 : s₂ = ({ (U.calling g mk a).setFrames s₂.frames with heap := s₂.heap, slotsUsed := s₂.slotsUsed } : State).setVm s₂.vm := by
      have : s₂ = ({ s₂ with vm := (U.calling g mk a).vm } : State).setVm s₂.vm := rfl
      rw [e2] at this
      exact this
    obtain ⟨c₂, i₂, len₂, hc₂, hd₂, hf₂⟩ := hend
    have hW' : U.WarmedH s₂.vm := hW₂
    have hcc : c₂ = c := by
      have h1 : s₂.code? g.method = U.code? g.method := by
        rw [State.code?_eq, State.code?_eq, hW'.alike.method?]
      exact Option.some.inj (hc₂.symm.trans (h1.trans h.code))
    subst hcc
    have hlen : len₂ = len := by rw [hdg] at hd₂; cases hd₂; rfl
    subst hlen
    have hs₂ : s₂ = (({ U with heap := s₂.heap, slotsUsed := s₂.slotsUsed } : State).setVm s₂.vm).setTop { g with pc := g.pc + len₂, stack := v.toList ++ g.stack } := by
      refine e3.trans ?_
      rw [hf₂, State.calling_eq h.top, State.setFrames_setFrames, State.setTop_of_frames _ hr', hr]
      rfl
    have hsame : U.sameButNew ({ U with heap := s₂.heap, slotsUsed := s₂.slotsUsed } : State) L mc ms := by
      refine ⟨?_, q2, q3, q4, q5, q6⟩
      obtain ⟨t, ht, -⟩ := State.frames_cons hr
      show ({ U with heap := s₂.heap, slotsUsed := s₂.slotsUsed } : State) = { U.setFrames U.frames with heap := s₂.heap, slotsUsed := s₂.slotsUsed }
      rw [State.setFrames_self ht]
    subst hg
    refine Or.inl ⟨v, ⟨(({ U with heap := s₂.heap, slotsUsed := s₂.slotsUsed } : State).setVm s₂.vm), Ls ++ L, c0 + mc, s0 + ms⟩,
      ⟨X.admits, X.cas, X.clock, X.frames, X.room, X.hears, X.method, X.code, (X.here.setHeapUsed s₂.heap s₂.slotsUsed).setVm hW'.alike, X.tail, State.WarmedH.trans X.warmed hW', X.limits, X.bytes, X.same.trans (hsame.setVm s.vm)⟩,
      ⟨g, mk, s₂, L, rfl, rfl, hqc, rfl, hL, rfl, rfl⟩, ?_⟩
    show Steps p.tables e below _ ((({ U with heap := s₂.heap, slotsUsed := s₂.slotsUsed } : State).setVm s₂.vm).setTop { g with pc := g.pc + len₂, stack := v.toList ++ g.stack })
    rw [← hs₂]
    exact hsteps
  · obtain ⟨e2, q2, q3, q4, q5, q6⟩ := id hsm
    have e3 : s₂ = ({ (U.calling g mk a).setFrames s₂.frames with heap := s₂.heap, slotsUsed := s₂.slotsUsed } : State).setVm s₂.vm := by
      have : s₂ = ({ s₂ with vm := (U.calling g mk a).vm } : State).setVm s₂.vm := rfl
      rw [e2] at this
      exact this
    have hf₂ : s₂.frames = .throwing q :: .java g :: U.frames.tail := hend
    have hW' : U.WarmedH s₂.vm := hW₂
    have hs₂ : s₂ = ((({ U with heap := s₂.heap, slotsUsed := s₂.slotsUsed } : State).setVm s₂.vm).setTop g).pushFrame (.throwing q) := by
      refine e3.trans ?_
      rw [hf₂, State.calling_eq h.top, State.setFrames_setFrames, State.pushFrame, State.frames_setTop _ hr', State.setTop_of_frames _ hr', State.setFrames_setFrames, hr]
      rfl
    have hsame : U.sameButNew ({ U with heap := s₂.heap, slotsUsed := s₂.slotsUsed } : State) L mc ms := by
      refine ⟨?_, q2, q3, q4, q5, q6⟩
      obtain ⟨t, ht, -⟩ := State.frames_cons hr
      show ({ U with heap := s₂.heap, slotsUsed := s₂.slotsUsed } : State) = { U.setFrames U.frames with heap := s₂.heap, slotsUsed := s₂.slotsUsed }
      rw [State.setFrames_self ht]
    subst hg
    refine Or.inr ⟨q, ⟨(({ U with heap := s₂.heap, slotsUsed := s₂.slotsUsed } : State).setVm s₂.vm), Ls ++ L, c0 + mc, s0 + ms⟩,
      ⟨X.admits, X.cas, X.clock, X.frames, X.room, X.hears, X.method, X.code, (X.here.setHeapUsed s₂.heap s₂.slotsUsed).setVm hW'.alike, X.tail, State.WarmedH.trans X.warmed hW', X.limits, X.bytes, X.same.trans (hsame.setVm s.vm)⟩,
      ⟨g, mk, s₂, L, E, ce, rfl, rfl, hx, hce, hcv, hcl, rfl, hL, rfl, rfl⟩, ?_⟩
    show Steps p.tables e below _ (((({ U with heap := s₂.heap, slotsUsed := s₂.slotsUsed } : State).setVm s₂.vm).setTop g).pushFrame (.throwing q))
    rw [← hs₂]
    exact hsteps
end
variable {p : Program} {l : Launch} {e : Env} {R : Room} {s : State} {m : MethodId} {args : Array Value} {below : List Frame} {meth : Method} {c : Code} {T : State} {H : Heap} {locs : List Loc} {cells slots : Nat}
theorem vx_callVX (X : Stand p l e R s m args below meth c T locs cells slots) (hexec : p.tables.exec = Jvm.exec) {own C : String} {index : Nat} {y : MethodName} {bytes : ByteArray} {maxL : Nat} {ret : Option FieldType} {hh : List (Nat × Nat × Nat × Nat)}
    (hown : s.vm.findClass own = some m.cls) (hlink : (Cond.methodLink own index y).before args s = true) (hinst : (Cond.instanceMethod y).before args s = true) (hsel : (Cond.selects C y y).before args s = true)
    (hcode : (Cond.codeWith y bytes maxL ret hh).before args s = true) (hy : y.cls ≠ "java/lang/invoke/MethodHandle" ∧ y.cls ≠ "java/lang/invoke/VarHandle")
    {W9 : Nat} {Pre : Pt → Array Value → Prop} {Post : Pt → Array Value → Option Value → Pt → Prop} {PostX : Pt → Array Value → Addr → Pt → Prop} (hK : vx_Back l R p e below s args y 3 W9 Pre Post PostX)
    {b : Addr} {cellB : Cell} (hcell : T.heap[b]? = some cellB) (hobj : cellB.vm.isStatics = false) (hcls : s.vm.findClass C = some cellB.cls)
    {g : JFrame} (hg : g.method = m) (hsize : g.locals.size = c.maxLocals) {argsL rest : List Value} (hlen : ∀ sig, parseMethodDescriptor y.desc = some sig → argsL.length = sig.parameters.length)
    (hstack : g.stack = argsL.reverse ++ .ref b :: rest) (hW : 2 * g.monitorRoom + (rest.map fun v => v.category).sum ≤ W9) (hdg : decode c.code g.pc = .ok (.invokevirtual index, 3))
    (hpre : ∀ vm₁, s.WarmedH vm₁ → Pre ⟨T.setVm vm₁, locs, cells, slots⟩ (Value.ref b :: argsL).toArray) :
    (∃ (v : Option Value) (vm₁ : Vm) (B : Pt), s.WarmedH vm₁ ∧ Stand p l e R s m args below meth c B.U B.locs B.cells B.slots ∧ Post ⟨T.setVm vm₁, locs, cells, slots⟩ (Value.ref b :: argsL).toArray v B ∧
      ∀ target, Steps p.tables e below (B.U.setTop { g with pc := g.pc + 3, stack := v.toList ++ rest }) target → Steps p.tables e below (T.setTop g) target) ∨
    (∃ (q : Addr) (vm₁ : Vm) (B : Pt), s.WarmedH vm₁ ∧ Stand p l e R s m args below meth c B.U B.locs B.cells B.slots ∧ PostX ⟨T.setVm vm₁, locs, cells, slots⟩ (Value.ref b :: argsL).toArray q B ∧
      Steps p.tables e below (T.setTop g) ((B.U.setTop { g with stack := rest }).pushFrame (.throwing q))) := by
  obtain ⟨mk, methM, hnamed, hmethM, hstM, habM⟩ := Cond.instanceMethod_spec hinst
  obtain ⟨m8, methM', cM, hn8, hmethM', -, -, -, -, -, -, hsigM⟩ := Cond.codeWith_spec hcode
  cases Option.some.inj (hn8.symm.trans hnamed)
  cases hmethM.symm.trans hmethM'
  obtain ⟨c2, r2, m2, q1, q2, q3, q4, kP, hkP, hkPi⟩ := Cond.selects_spec hsel
  cases hcls.symm.trans q1
  cases (State.methodFound?_of_named hnamed hy).symm.trans q2
  cases hnamed.symm.trans q3
  have hselP : selectMethod e.platform s.vm cellB.cls mk = .method mk := by rw [Launch.admits_selectMethod X.admits]; exact q4
  obtain ⟨vm₁, X₁, hstep₁⟩ := X.invokevirtual hexec hown hlink hnamed hmethM hstM hkP hkPi hy (a := b) (cell := cellB) hcell
    (fun z h => by rw [h] at hobj; cases hobj) hselP hmethM habM hkP hkPi (g := g) hg (argsL := argsL) (rest := rest) (hlen _ hsigM) hstack hdg
  rcases hK m meth c ⟨T.setVm vm₁, locs, cells, slots⟩ { g with stack := rest } (.invokevirtual index) mk (Value.ref b :: argsL).toArray X₁ hg hsize hdg hW (X₁.named hnamed) (hpre vm₁ X₁.warmed) with ⟨v, B, X', hpost, hsteps⟩ | ⟨q, B, X', hpost, hsteps⟩
  · exact Or.inl ⟨v, vm₁, B, X₁.warmed, X', hpost, fun target h => hstep₁ _ fun acts => by rw [doInvoke_state]; exact hsteps.trans h⟩
  · exact Or.inr ⟨q, vm₁, B, X₁.warmed, X', hpost, hstep₁ _ fun acts => by rw [doInvoke_state]; exact hsteps⟩
theorem vx_callSX (X : Stand p l e R s m args below meth c T locs cells slots) (hexec : p.tables.exec = Jvm.exec) {own : String} {index : Nat} {y : MethodName} {bytes : ByteArray} {maxL : Nat} {ret : Option FieldType} {hh : List (Nat × Nat × Nat × Nat)}
    (hown : s.vm.findClass own = some m.cls) (hlink : (Cond.methodLink own index y).before args s = true) (hstat : (Cond.static y).before args s = true) (hinit : (Cond.initialized y.cls).before args s = true)
    (hcode : (Cond.codeWith y bytes maxL ret hh).before args s = true) (hy : y.cls ≠ "java/lang/invoke/MethodHandle" ∧ y.cls ≠ "java/lang/invoke/VarHandle")
    {W9 : Nat} {Pre : Pt → Array Value → Prop} {Post : Pt → Array Value → Option Value → Pt → Prop} {PostX : Pt → Array Value → Addr → Pt → Prop} (hK : vx_Back l R p e below s args y 3 W9 Pre Post PostX)
    {g : JFrame} (hg : g.method = m) (hsize : g.locals.size = c.maxLocals) {argsL rest : List Value} (hlen : ∀ sig, parseMethodDescriptor y.desc = some sig → argsL.length = sig.parameters.length)
    (hstack : g.stack = argsL.reverse ++ rest) (hW : 2 * g.monitorRoom + (rest.map fun v => v.category).sum ≤ W9) (hdg : decode c.code g.pc = .ok (.invokestatic index, 3))
    (hpre : ∀ vm₁, s.WarmedH vm₁ → Pre ⟨T.setVm vm₁, locs, cells, slots⟩ argsL.toArray) :
    (∃ (v : Option Value) (vm₁ : Vm) (B : Pt), s.WarmedH vm₁ ∧ Stand p l e R s m args below meth c B.U B.locs B.cells B.slots ∧ Post ⟨T.setVm vm₁, locs, cells, slots⟩ argsL.toArray v B ∧
      ∀ target, Steps p.tables e below (B.U.setTop { g with pc := g.pc + 3, stack := v.toList ++ rest }) target → Steps p.tables e below (T.setTop g) target) ∨
    (∃ (q : Addr) (vm₁ : Vm) (B : Pt), s.WarmedH vm₁ ∧ Stand p l e R s m args below meth c B.U B.locs B.cells B.slots ∧ PostX ⟨T.setVm vm₁, locs, cells, slots⟩ argsL.toArray q B ∧
      Steps p.tables e below (T.setTop g) ((B.U.setTop { g with stack := rest }).pushFrame (.throwing q))) := by
  obtain ⟨mk, methM, cM, hnamed, hmethM, -, -, -, -, -, -, hsigM⟩ := Cond.codeWith_spec hcode
  have hstatic : methM.isStatic = true := Cond.static_spec hnamed hmethM hstat
  obtain ⟨kP, hkP, -⟩ := className_of_methodNamed hnamed
  have hinitP : kP.init = .initialized := Cond.initialized_spec (findClass_of_methodNamed hnamed) hkP hinit
  obtain ⟨vm₁, X₁, hstep₁⟩ := X.invokestatic hexec hown hlink hnamed hmethM hstatic hkP hinitP hy (g := g) hg (argsL := argsL) (rest := rest) (hlen _ hsigM) hstack hdg
  rcases hK m meth c ⟨T.setVm vm₁, locs, cells, slots⟩ { g with stack := rest } (.invokestatic index) mk argsL.toArray X₁ hg hsize hdg hW (X₁.named hnamed) (hpre vm₁ X₁.warmed) with ⟨v, B, X', hpost, hsteps⟩ | ⟨q, B, X', hpost, hsteps⟩
  · exact Or.inl ⟨v, vm₁, B, X₁.warmed, X', hpost, fun target h => hstep₁ _ fun acts => by rw [doInvoke_state]; exact hsteps.trans h⟩
  · exact Or.inr ⟨q, vm₁, B, X₁.warmed, X', hpost, hstep₁ _ fun acts => by rw [doInvoke_state]; exact hsteps⟩
theorem vx_callVW (X : Stand p l e R s m args below meth c T locs cells slots) (hexec : p.tables.exec = Jvm.exec) {own C : String} {index : Nat} {y : MethodName} {bytes : ByteArray} {maxL : Nat} {ret : Option FieldType} {hh : List (Nat × Nat × Nat × Nat)}
    (hown : s.vm.findClass own = some m.cls) (hlink : (Cond.methodLink own index y).before args s = true) (hinst : (Cond.instanceMethod y).before args s = true) (hsel : (Cond.selects C y y).before args s = true)
    (hcode : (Cond.codeWith y bytes maxL ret hh).before args s = true) (hy : y.cls ≠ "java/lang/invoke/MethodHandle" ∧ y.cls ≠ "java/lang/invoke/VarHandle")
    {W9 : Nat} {Pre : Pt → Array Value → Prop} {Post : Pt → Array Value → Option Value → Pt → Prop} (hK : Back l R p e below s args y 3 W9 Pre Post)
    {b : Addr} {cellB : Cell} (hcell : T.heap[b]? = some cellB) (hobj : cellB.vm.isStatics = false) (hcls : s.vm.findClass C = some cellB.cls)
    {g : JFrame} (hg : g.method = m) (hsize : g.locals.size = c.maxLocals) {argsL rest : List Value} (hlen : ∀ sig, parseMethodDescriptor y.desc = some sig → argsL.length = sig.parameters.length)
    (hstack : g.stack = argsL.reverse ++ .ref b :: rest) (hW : 2 * g.monitorRoom + (rest.map fun v => v.category).sum ≤ W9) (hdg : decode c.code g.pc = .ok (.invokevirtual index, 3))
    (hpre : ∀ vm₁, s.WarmedH vm₁ → Pre ⟨T.setVm vm₁, locs, cells, slots⟩ (Value.ref b :: argsL).toArray) :
    ∃ (v : Option Value) (vm₁ : Vm) (B : Pt), s.WarmedH vm₁ ∧ Stand p l e R s m args below meth c B.U B.locs B.cells B.slots ∧ Post ⟨T.setVm vm₁, locs, cells, slots⟩ (Value.ref b :: argsL).toArray v B ∧
      ∀ target, Steps p.tables e below (B.U.setTop { g with pc := g.pc + 3, stack := v.toList ++ rest }) target → Steps p.tables e below (T.setTop g) target := by
  obtain ⟨mk, methM, hnamed, hmethM, hstM, habM⟩ := Cond.instanceMethod_spec hinst
  obtain ⟨m8, methM', cM, hn8, hmethM', -, -, -, -, -, -, hsigM⟩ := Cond.codeWith_spec hcode
  cases Option.some.inj (hn8.symm.trans hnamed)
  cases hmethM.symm.trans hmethM'
  obtain ⟨c2, r2, m2, q1, q2, q3, q4, kP, hkP, hkPi⟩ := Cond.selects_spec hsel
  cases hcls.symm.trans q1
  cases (State.methodFound?_of_named hnamed hy).symm.trans q2
  cases hnamed.symm.trans q3
  have hselP : selectMethod e.platform s.vm cellB.cls mk = .method mk := by rw [Launch.admits_selectMethod X.admits]; exact q4
  obtain ⟨vm₁, X₁, hstep₁⟩ := X.invokevirtual hexec hown hlink hnamed hmethM hstM hkP hkPi hy (a := b) (cell := cellB) hcell
    (fun z h => by rw [h] at hobj; cases hobj) hselP hmethM habM hkP hkPi (g := g) hg (argsL := argsL) (rest := rest) (hlen _ hsigM) hstack hdg
  obtain ⟨v, B, X', hpost, hsteps⟩ := hK m meth c ⟨T.setVm vm₁, locs, cells, slots⟩ { g with stack := rest } (.invokevirtual index) mk (Value.ref b :: argsL).toArray X₁ hg hsize hdg hW (X₁.named hnamed) (hpre vm₁ X₁.warmed)
  exact ⟨v, vm₁, B, X₁.warmed, X', hpost, fun target h => hstep₁ _ fun acts => by rw [doInvoke_state]; exact hsteps.trans h⟩
abbrev vx_CVW (R : Room) (s : State) (args : Array Value) (own C : String) (index : Nat) (y : MethodName) (bytes : ByteArray) (maxL : Nat) (ret : Option FieldType) (hh : List (Nat × Nat × Nat × Nat)) (ws : List Cond) (rm : Room) (mc ms n : Nat) : Prop :=
  (rm.cells = mc ∧ rm.slots = ms ∧ rm.frames + 1 ≤ R.frames ∧ 8 + (maxL + 11) + rm.locals ≤ R.locals ∧ (∀ w ∈ ws, ∀ (a' : Array Value) (U : State), s.WarmedH U.vm → w.before a' U = true) ∧ Cond.codeWith y bytes maxL ret hh ∈ ws) ∧
  (Cond.codeWith y bytes maxL ret hh).before args s = true ∧ (Cond.initialized y.cls).before args s = true ∧ (y.cls ≠ "java/lang/invoke/MethodHandle" ∧ y.cls ≠ "java/lang/invoke/VarHandle") ∧
  (∀ sig, parseMethodDescriptor y.desc = some sig → n = sig.parameters.length) ∧ (Cond.methodLink own index y).before args s = true ∧ (Cond.instanceMethod y).before args s = true ∧ (Cond.selects C y y).before args s = true
theorem vx_cwVW {own C : String} {index maxL mc ms : Nat} {y : MethodName} {bytes : ByteArray} {ret : Option FieldType} {hh : List (Nat × Nat × Nat × Nat)} {Ts ws ws' : List Cond} {rm : Room} (n : Nat) (ht : ∀ w ∈ Ts, w.before args s = true) (hT : GoodIn Ts (wsV own index C y ws)) (hw : ws = Cond.codeWith y bytes maxL ret hh :: ws') (hrc : rm.cells = mc) (hrs : rm.slots = ms)
    (hd : y.cls = C ∧ y.cls ≠ "java/lang/invoke/MethodHandle" ∧ y.cls ≠ "java/lang/invoke/VarHandle" ∧ (parseMethodDescriptor y.desc).map (fun d => d.parameters.length) = some n) (hR : rm.frames + 1 ≤ R.frames ∧ 8 + (maxL + 11) + rm.locals ≤ R.locals) :
    vx_CVW R s args own C index y bytes maxL ret hh ws rm mc ms n := by
  obtain ⟨hC, hd⟩ := hd
  subst hC
  have ok : ∀ w ∈ wsV own index y.cls y ws, w.before args s = true := fun w h => ht w (hT w h).1
  have hG : GoodIn Ts ws := fun w h => hT w (by unfold wsV; exact List.mem_append_right _ h)
  have hc : Cond.codeWith y bytes maxL ret hh ∈ ws := by rw [hw]; exact List.mem_cons_self
  refine ⟨⟨hrc, hrs, hR.1, hR.2, pay_in ht hG, hc⟩, ht _ (hG _ hc).1, ok _ (by simp [wsV]), ⟨hd.1, hd.2.1⟩, fun sig h => ?_, ok _ (by simp [wsV]), ok _ (by simp [wsV]), ok _ (by simp [wsV])⟩
  have h2 := hd.2.2
  rw [h] at h2
  exact (Option.some.inj h2).symm
theorem vx_runVW {y : MethodName} {bytes cc : ByteArray} {maxL nL mc ms n index : Nat} {ret : Option FieldType} {hh : List (Nat × Nat × Nat × Nat)} {ws : List Cond} {rm : Room} {Pc : Array Value → State → Prop} {Qc : Array Value → State → Outcome → State → Prop} {free : Addr → Prop} {Ts : List Cond} {own C : String} {b : Addr} {As rest : List Value} {g : JFrame}
    (S : CallFix p m c cc nL s args Ts own) (hM : Met l y ws rm Pc Qc mc ms free) (cw : vx_CVW R s args own C index y bytes maxL ret hh ws rm mc ms n) (hp : PreV s H C b Pc As)
    (hg : g.method = m) (hn : As.length = n) (hsize : g.locals.size = nL) (hstack : g.stack = As.reverse ++ .ref b :: rest) (hW : 2 * g.monitorRoom + (rest.map fun v => v.category).sum ≤ 8) (hdg : decode cc g.pc = .ok (.invokevirtual index, 3)) (hf : cells + mc ≤ R.cells ∧ slots + ms ≤ R.slots) :
    va_Run p l e R s m args below meth c H locs cells slots mc ms g rest (Qc (Value.ref b :: As).toArray) free := by
  obtain ⟨⟨hrc, hrs, hfr, hlo, hws, hcw⟩, hcode, hini, hy, hlen, hl, hin, hse⟩ := cw
  have hK : Back l R p e below s args y 3 8 (PreOf R mc ms Pc) (PostOf Qc mc ms free) := va_backW (hh := hh) (bytes := bytes) (maxL := maxL) (ret := ret) hM hp.1 hrc hrs hfr hlo hws hcw (fun a' U hW => word_at hW (Or.inl (by first | rfl | simp [Cond.onTables, Cond.keeps, Cond.steady])) hini)
  obtain ⟨hx, hb, hml, ho, -⟩ := S
  obtain ⟨-, ⟨cellB, hcB, hoB, hclB⟩, hPc⟩ := hp
  intro T hT X
  obtain ⟨v, vm₁, ⟨U', l2, c2, s2⟩, hW₁, X', ⟨g', mk, t, L, e1, e2, hq, h1, hL, h2, h3⟩, st⟩ := vx_callVW X hx (C := C) (hh := hh) (bytes := bytes) (maxL := maxL) (ret := ret) ho hl hin hse hcode hy hK (by rw [hT]; exact hcB) hoB hclB hg (hsize.trans hml.symm) (argsL := As) (rest := rest) (fun sig h => hn.trans (hlen sig h)) hstack hW (by rw [hb]; exact hdg)
    (fun vm₁ hW₁ => ⟨hf.1, hf.2, hPc (T.setVm vm₁) hT hW₁⟩)
  dsimp only [Pt.U, Pt.locs, Pt.cells, Pt.slots] at X' e1 e2 h1 h2 h3 st
  subst h1; subst h2; subst h3
  exact ⟨v, (T.setVm vm₁).calling g' mk (Value.ref b :: As).toArray, t, U', L, hT, X', hL, e1, e2, hq, st⟩
section
variable {y : MethodName} {bytes cc : ByteArray} {maxL nL mc ms n index : Nat} {ret : Option FieldType} {ws : List Cond} {rm : Room} {Pc : Array Value → State → Prop} {Qc : Array Value → State → Outcome → State → Prop} {XC : String → State → State → Prop} {free : Addr → Prop} {Ts : List Cond} {own C : String} {b : Addr} {As rest : List Value} {g : JFrame}
theorem vx_runVX {hh : List (Nat × Nat × Nat × Nat)} (S : CallFix p m c cc nL s args Ts own) (hM : vx_Met l y ws rm Pc Qc XC mc ms free) (cw : vx_CVW R s args own C index y bytes maxL ret hh ws rm mc ms n) (hp : PreV s H C b Pc As)
    (hg : g.method = m) (hn : As.length = n) (hsize : g.locals.size = nL) (hstack : g.stack = As.reverse ++ .ref b :: rest) (hW : 2 * g.monitorRoom + (rest.map fun v => v.category).sum ≤ 8) (hdg : decode cc g.pc = .ok (.invokevirtual index, 3)) (hf : cells + mc ≤ R.cells ∧ slots + ms ≤ R.slots) :
    vx_Run p l e R s m args below meth c H locs cells slots mc ms g rest (Qc (Value.ref b :: As).toArray) XC free := by
  obtain ⟨⟨hrc, hrs, hfr, hlo, hws, hcw⟩, hcode, hini, hy, hlen, hl, hin, hse⟩ := cw
  have hK : vx_Back l R p e below s args y 3 8 (PreOf R mc ms Pc) (PostOf Qc mc ms free) (vx_Post XC mc ms free) := vx_backW (hh := hh) (bytes := bytes) (maxL := maxL) (ret := ret) hM hp.1 hrc hrs hfr hlo hws hcw (fun a' U hW => word_at hW (Or.inl (by first | rfl | simp [Cond.onTables, Cond.keeps, Cond.steady])) hini)
  obtain ⟨hx, hb, hml, ho, -⟩ := S
  obtain ⟨-, ⟨cellB, hcB, hoB, hclB⟩, hPc⟩ := hp
  intro T hT X
  rcases vx_callVX X hx (C := C) (hh := hh) (bytes := bytes) (maxL := maxL) (ret := ret) ho hl hin hse hcode hy hK (by rw [hT]; exact hcB) hoB hclB hg (hsize.trans hml.symm) (argsL := As) (rest := rest) (fun sig h => hn.trans (hlen sig h)) hstack hW (by rw [hb]; exact hdg)
    (fun vm₁ hW₁ => ⟨hf.1, hf.2, hPc (T.setVm vm₁) hT hW₁⟩) with ⟨v, vm₁, ⟨U', l2, c2, s2⟩, hW₁, X', ⟨g', mk, t, L, e1, e2, hq, h1, hL, h2, h3⟩, st⟩ | ⟨q, vm₁, ⟨U', l2, c2, s2⟩, hW₁, X', ⟨g', mk, t, L, E, ce, e1, e2, hq, hce, hcv, hcl, h1, hL, h2, h3⟩, st⟩
  · dsimp only [Pt.U, Pt.locs, Pt.cells, Pt.slots] at X' e1 e2 h1 h2 h3 st
    subst h1; subst h2; subst h3
    exact Or.inl ⟨v, (T.setVm vm₁).calling g' mk (Value.ref b :: As).toArray, t, U', L, hT, X', hL, e1, e2, hq, st⟩
  · dsimp only [Pt.U, Pt.locs, Pt.cells, Pt.slots] at X' e1 e2 h1 h2 h3 st hcl
    subst h1; subst h2; subst h3
    exact Or.inr ⟨q, (T.setVm vm₁).calling g' mk (Value.ref b :: As).toArray, t, U', L, E, ce, hT, X', hL, e1, e2, hq, hce, hcv, vx_cls hW₁ hcl, st⟩
theorem vx_runSX {hh : List (Nat × Nat × Nat × Nat)} (S : CallFix p m c cc nL s args Ts own) (hM : vx_Met l y ws rm Pc Qc XC mc ms free) (cw : vx_CSW R s args own index y bytes maxL ret hh ws rm mc ms n) (hp : PreS s H Pc As)
    (hg : g.method = m) (hn : As.length = n) (hsize : g.locals.size = nL) (hstack : g.stack = As.reverse ++ rest) (hW : 2 * g.monitorRoom + (rest.map fun v => v.category).sum ≤ 8) (hdg : decode cc g.pc = .ok (.invokestatic index, 3)) (hf : cells + mc ≤ R.cells ∧ slots + ms ≤ R.slots) :
    vx_Run p l e R s m args below meth c H locs cells slots mc ms g rest (Qc As.toArray) XC free := by
  obtain ⟨⟨hrc, hrs, hfr, hlo, hws, hcw⟩, hcode, hini, hy, hlen, hl, hstt⟩ := cw
  have hK : vx_Back l R p e below s args y 3 8 (PreOf R mc ms Pc) (PostOf Qc mc ms free) (vx_Post XC mc ms free) := vx_backW (hh := hh) (bytes := bytes) (maxL := maxL) (ret := ret) hM hp.1 hrc hrs hfr hlo hws hcw (fun a' U hW => word_at hW (Or.inl (by first | rfl | simp [Cond.onTables, Cond.keeps, Cond.steady])) hini)
  obtain ⟨hx, hb, hml, ho, -⟩ := S
  intro T hT X
  rcases vx_callSX X hx (hh := hh) (bytes := bytes) (maxL := maxL) (ret := ret) ho hl hstt hini hcode hy hK hg (hsize.trans hml.symm) (argsL := As) (rest := rest) (fun sig h => hn.trans (hlen sig h)) hstack hW (by rw [hb]; exact hdg)
    (fun vm₁ hW₁ => ⟨hf.1, hf.2, hp.2 (T.setVm vm₁) hT hW₁⟩) with ⟨v, vm₁, ⟨U', l2, c2, s2⟩, hW₁, X', ⟨g', mk, t, L, e1, e2, hq, h1, hL, h2, h3⟩, st⟩ | ⟨q, vm₁, ⟨U', l2, c2, s2⟩, hW₁, X', ⟨g', mk, t, L, E, ce, e1, e2, hq, hce, hcv, hcl, h1, hL, h2, h3⟩, st⟩
  · dsimp only [Pt.U, Pt.locs, Pt.cells, Pt.slots] at X' e1 e2 h1 h2 h3 st
    subst h1; subst h2; subst h3
    exact Or.inl ⟨v, (T.setVm vm₁).calling g' mk As.toArray, t, U', L, hT, X', hL, e1, e2, hq, st⟩
  · dsimp only [Pt.U, Pt.locs, Pt.cells, Pt.slots] at X' e1 e2 h1 h2 h3 st hcl
    subst h1; subst h2; subst h3
    exact Or.inr ⟨q, (T.setVm vm₁).calling g' mk As.toArray, t, U', L, E, ce, hT, X', hL, e1, e2, hq, hce, hcv, vx_cls hW₁ hcl, st⟩
end
end VXH
theorem vx_ofWH {l : Launch} {y : MethodName} {ws ws' : List Cond} {rm : Room} {Pc : Array Value → State → Prop} {Qc : Array Value → State → Outcome → State → Prop} {XC : String → State → State → Prop} {mc ms : Nat} {free : Addr → Prop} {cc : ByteArray} {maxL : Nat} {ret : Option FieldType} {hh : List (Nat × Nat × Nat × Nat)}
    (hy : plainName y.cls = true) (hw : ws = Cond.codeWith y cc maxL ret hh :: ws')
    (body : ∀ p e s m args below meth c s₁, BodyLoose p l y (headSpec ws rm) cc maxL ret e s m args below meth c s₁ → c.maxLocals = maxL → Pc args s →
      W p l e (headSpec ws rm).room s m args below meth c s.heap [] 0 0 (vx_MQ below Qc XC args s mc ms free) (entryFrame m args maxL)) : vx_Met l y ws rm Pc Qc XC mc ms free := by
  refine MetFree.of_bodyS (code := cc) (maxLocals := maxL) (ret := ret) hy ?_ ?_
  · intro args s m h hn
    obtain ⟨m9, meth, c, hn9, h1, h2, h3, h4, -, h5, h6, -⟩ := Cond.codeWith_spec (atoms_spec (ws := ws) h _ (by rw [hw]; exact List.mem_cons_self))
    cases hn.symm.trans hn9
    exact ⟨meth, c, h1, h2, h3, h4, h5, h6⟩
  · intro p e s m args below meth c s₁ B hml hP _
    have hh0 : s₁.heap = s.heap := by rw [B.state]; rfl
    obtain ⟨t, a1, o, b1, b2, b3⟩ := body p e s m args below meth c s₁ B hml hP s₁ hh0 (Stand.of_body B)
    exact ⟨t, o, a1, b1, b2, b3⟩
/-! ===== END ===== -/
end
section
abbrev b_Integer_numberOfLeadingZeros : ByteArray := prog_17_method_47_code
def y_Integer_numberOfLeadingZeros : MethodName := ⟨"java/lang/Integer", "numberOfLeadingZeros", "(I)I"⟩
theorem d_Integer_numberOfLeadingZeros_0 : decode b_Integer_numberOfLeadingZeros 0 = .ok (.iload_n 0, 1) := by decide +kernel
theorem d_Integer_numberOfLeadingZeros_1 : decode b_Integer_numberOfLeadingZeros 1 = .ok (.ifCond .gt 14, 3) := by decide +kernel
theorem d_Integer_numberOfLeadingZeros_4 : decode b_Integer_numberOfLeadingZeros 4 = .ok (.iload_n 0, 1) := by decide +kernel
theorem d_Integer_numberOfLeadingZeros_5 : decode b_Integer_numberOfLeadingZeros 5 = .ok (.ifCond .ne 8, 3) := by decide +kernel
theorem d_Integer_numberOfLeadingZeros_8 : decode b_Integer_numberOfLeadingZeros 8 = .ok (.bipush 32, 2) := by decide +kernel
theorem d_Integer_numberOfLeadingZeros_10 : decode b_Integer_numberOfLeadingZeros 10 = .ok (.goto 4, 3) := by decide +kernel
theorem d_Integer_numberOfLeadingZeros_13 : decode b_Integer_numberOfLeadingZeros 13 = .ok (.iconst 0, 1) := by decide +kernel
theorem d_Integer_numberOfLeadingZeros_14 : decode b_Integer_numberOfLeadingZeros 14 = .ok (.ireturn, 1) := by decide +kernel
theorem d_Integer_numberOfLeadingZeros_15 : decode b_Integer_numberOfLeadingZeros 15 = .ok (.bipush 31, 2) := by decide +kernel
theorem d_Integer_numberOfLeadingZeros_17 : decode b_Integer_numberOfLeadingZeros 17 = .ok (.istore_n 1, 1) := by decide +kernel
theorem d_Integer_numberOfLeadingZeros_18 : decode b_Integer_numberOfLeadingZeros 18 = .ok (.iload_n 0, 1) := by decide +kernel
theorem d_Integer_numberOfLeadingZeros_19 : decode b_Integer_numberOfLeadingZeros 19 = .ok (.ldc_w 264, 3) := by decide +kernel
theorem d_Integer_numberOfLeadingZeros_22 : decode b_Integer_numberOfLeadingZeros 22 = .ok (.if_icmp .lt 11, 3) := by decide +kernel
theorem d_Integer_numberOfLeadingZeros_25 : decode b_Integer_numberOfLeadingZeros 25 = .ok (.iinc 1 (-16), 3) := by decide +kernel
theorem d_Integer_numberOfLeadingZeros_28 : decode b_Integer_numberOfLeadingZeros 28 = .ok (.iload_n 0, 1) := by decide +kernel
theorem d_Integer_numberOfLeadingZeros_29 : decode b_Integer_numberOfLeadingZeros 29 = .ok (.bipush 16, 2) := by decide +kernel
theorem d_Integer_numberOfLeadingZeros_31 : decode b_Integer_numberOfLeadingZeros 31 = .ok (.iushr, 1) := by decide +kernel
theorem d_Integer_numberOfLeadingZeros_32 : decode b_Integer_numberOfLeadingZeros 32 = .ok (.istore_n 0, 1) := by decide +kernel
theorem d_Integer_numberOfLeadingZeros_33 : decode b_Integer_numberOfLeadingZeros 33 = .ok (.iload_n 0, 1) := by decide +kernel
theorem d_Integer_numberOfLeadingZeros_34 : decode b_Integer_numberOfLeadingZeros 34 = .ok (.sipush 256, 3) := by decide +kernel
theorem d_Integer_numberOfLeadingZeros_37 : decode b_Integer_numberOfLeadingZeros 37 = .ok (.if_icmp .lt 11, 3) := by decide +kernel
theorem d_Integer_numberOfLeadingZeros_40 : decode b_Integer_numberOfLeadingZeros 40 = .ok (.iinc 1 (-8), 3) := by decide +kernel
theorem d_Integer_numberOfLeadingZeros_43 : decode b_Integer_numberOfLeadingZeros 43 = .ok (.iload_n 0, 1) := by decide +kernel
theorem d_Integer_numberOfLeadingZeros_44 : decode b_Integer_numberOfLeadingZeros 44 = .ok (.bipush 8, 2) := by decide +kernel
theorem d_Integer_numberOfLeadingZeros_46 : decode b_Integer_numberOfLeadingZeros 46 = .ok (.iushr, 1) := by decide +kernel
theorem d_Integer_numberOfLeadingZeros_47 : decode b_Integer_numberOfLeadingZeros 47 = .ok (.istore_n 0, 1) := by decide +kernel
theorem d_Integer_numberOfLeadingZeros_48 : decode b_Integer_numberOfLeadingZeros 48 = .ok (.iload_n 0, 1) := by decide +kernel
theorem d_Integer_numberOfLeadingZeros_49 : decode b_Integer_numberOfLeadingZeros 49 = .ok (.bipush 16, 2) := by decide +kernel
theorem d_Integer_numberOfLeadingZeros_51 : decode b_Integer_numberOfLeadingZeros 51 = .ok (.if_icmp .lt 10, 3) := by decide +kernel
theorem d_Integer_numberOfLeadingZeros_54 : decode b_Integer_numberOfLeadingZeros 54 = .ok (.iinc 1 (-4), 3) := by decide +kernel
theorem d_Integer_numberOfLeadingZeros_57 : decode b_Integer_numberOfLeadingZeros 57 = .ok (.iload_n 0, 1) := by decide +kernel
theorem d_Integer_numberOfLeadingZeros_58 : decode b_Integer_numberOfLeadingZeros 58 = .ok (.iconst 4, 1) := by decide +kernel
theorem d_Integer_numberOfLeadingZeros_59 : decode b_Integer_numberOfLeadingZeros 59 = .ok (.iushr, 1) := by decide +kernel
theorem d_Integer_numberOfLeadingZeros_60 : decode b_Integer_numberOfLeadingZeros 60 = .ok (.istore_n 0, 1) := by decide +kernel
theorem d_Integer_numberOfLeadingZeros_61 : decode b_Integer_numberOfLeadingZeros 61 = .ok (.iload_n 0, 1) := by decide +kernel
theorem d_Integer_numberOfLeadingZeros_62 : decode b_Integer_numberOfLeadingZeros 62 = .ok (.iconst 4, 1) := by decide +kernel
theorem d_Integer_numberOfLeadingZeros_63 : decode b_Integer_numberOfLeadingZeros 63 = .ok (.if_icmp .lt 10, 3) := by decide +kernel
theorem d_Integer_numberOfLeadingZeros_66 : decode b_Integer_numberOfLeadingZeros 66 = .ok (.iinc 1 (-2), 3) := by decide +kernel
theorem d_Integer_numberOfLeadingZeros_69 : decode b_Integer_numberOfLeadingZeros 69 = .ok (.iload_n 0, 1) := by decide +kernel
theorem d_Integer_numberOfLeadingZeros_70 : decode b_Integer_numberOfLeadingZeros 70 = .ok (.iconst 2, 1) := by decide +kernel
theorem d_Integer_numberOfLeadingZeros_71 : decode b_Integer_numberOfLeadingZeros 71 = .ok (.iushr, 1) := by decide +kernel
theorem d_Integer_numberOfLeadingZeros_72 : decode b_Integer_numberOfLeadingZeros 72 = .ok (.istore_n 0, 1) := by decide +kernel
theorem d_Integer_numberOfLeadingZeros_73 : decode b_Integer_numberOfLeadingZeros 73 = .ok (.iload_n 1, 1) := by decide +kernel
theorem d_Integer_numberOfLeadingZeros_74 : decode b_Integer_numberOfLeadingZeros 74 = .ok (.iload_n 0, 1) := by decide +kernel
theorem d_Integer_numberOfLeadingZeros_75 : decode b_Integer_numberOfLeadingZeros 75 = .ok (.iconst 1, 1) := by decide +kernel
theorem d_Integer_numberOfLeadingZeros_76 : decode b_Integer_numberOfLeadingZeros 76 = .ok (.iushr, 1) := by decide +kernel
theorem d_Integer_numberOfLeadingZeros_77 : decode b_Integer_numberOfLeadingZeros 77 = .ok (.isub, 1) := by decide +kernel
theorem d_Integer_numberOfLeadingZeros_78 : decode b_Integer_numberOfLeadingZeros 78 = .ok (.ireturn, 1) := by decide +kernel
abbrev b_Long_numberOfLeadingZeros : ByteArray := prog_18_method_48_code
def y_Long_numberOfLeadingZeros : MethodName := ⟨"java/lang/Long", "numberOfLeadingZeros", "(J)I"⟩
theorem d_Long_numberOfLeadingZeros_0 : decode b_Long_numberOfLeadingZeros 0 = .ok (.lload_n 0, 1) := by decide +kernel
theorem d_Long_numberOfLeadingZeros_1 : decode b_Long_numberOfLeadingZeros 1 = .ok (.bipush 32, 2) := by decide +kernel
theorem d_Long_numberOfLeadingZeros_3 : decode b_Long_numberOfLeadingZeros 3 = .ok (.lushr, 1) := by decide +kernel
theorem d_Long_numberOfLeadingZeros_4 : decode b_Long_numberOfLeadingZeros 4 = .ok (.l2i, 1) := by decide +kernel
theorem d_Long_numberOfLeadingZeros_5 : decode b_Long_numberOfLeadingZeros 5 = .ok (.istore_n 2, 1) := by decide +kernel
theorem d_Long_numberOfLeadingZeros_6 : decode b_Long_numberOfLeadingZeros 6 = .ok (.iload_n 2, 1) := by decide +kernel
theorem d_Long_numberOfLeadingZeros_7 : decode b_Long_numberOfLeadingZeros 7 = .ok (.ifCond .ne 14, 3) := by decide +kernel
theorem d_Long_numberOfLeadingZeros_10 : decode b_Long_numberOfLeadingZeros 10 = .ok (.bipush 32, 2) := by decide +kernel
theorem d_Long_numberOfLeadingZeros_12 : decode b_Long_numberOfLeadingZeros 12 = .ok (.lload_n 0, 1) := by decide +kernel
theorem d_Long_numberOfLeadingZeros_13 : decode b_Long_numberOfLeadingZeros 13 = .ok (.l2i, 1) := by decide +kernel
theorem d_Long_numberOfLeadingZeros_14 : decode b_Long_numberOfLeadingZeros 14 = .ok (.invokestatic 308, 3) := by decide +kernel
theorem d_Long_numberOfLeadingZeros_17 : decode b_Long_numberOfLeadingZeros 17 = .ok (.iadd, 1) := by decide +kernel
theorem d_Long_numberOfLeadingZeros_18 : decode b_Long_numberOfLeadingZeros 18 = .ok (.goto 7, 3) := by decide +kernel
theorem d_Long_numberOfLeadingZeros_21 : decode b_Long_numberOfLeadingZeros 21 = .ok (.iload_n 2, 1) := by decide +kernel
theorem d_Long_numberOfLeadingZeros_22 : decode b_Long_numberOfLeadingZeros 22 = .ok (.invokestatic 308, 3) := by decide +kernel
theorem d_Long_numberOfLeadingZeros_25 : decode b_Long_numberOfLeadingZeros 25 = .ok (.ireturn, 1) := by decide +kernel
abbrev b_Math_max : ByteArray := prog_19_method_65_code
def y_Math_max : MethodName := ⟨"java/lang/Math", "max", "(II)I"⟩
theorem d_Math_max_0 : decode b_Math_max 0 = .ok (.iload_n 0, 1) := by decide +kernel
theorem d_Math_max_1 : decode b_Math_max 1 = .ok (.iload_n 1, 1) := by decide +kernel
theorem d_Math_max_2 : decode b_Math_max 2 = .ok (.if_icmp .lt 7, 3) := by decide +kernel
theorem d_Math_max_5 : decode b_Math_max 5 = .ok (.iload_n 0, 1) := by decide +kernel
theorem d_Math_max_6 : decode b_Math_max 6 = .ok (.goto 4, 3) := by decide +kernel
theorem d_Math_max_9 : decode b_Math_max 9 = .ok (.iload_n 1, 1) := by decide +kernel
theorem d_Math_max_10 : decode b_Math_max 10 = .ok (.ireturn, 1) := by decide +kernel
abbrev b_Long_compare : ByteArray := prog_18_method_42_code
def y_Long_compare : MethodName := ⟨"java/lang/Long", "compare", "(JJ)I"⟩
theorem d_Long_compare_0 : decode b_Long_compare 0 = .ok (.lload_n 0, 1) := by decide +kernel
theorem d_Long_compare_1 : decode b_Long_compare 1 = .ok (.lload_n 2, 1) := by decide +kernel
theorem d_Long_compare_2 : decode b_Long_compare 2 = .ok (.lcmp, 1) := by decide +kernel
theorem d_Long_compare_3 : decode b_Long_compare 3 = .ok (.ifCond .ge 7, 3) := by decide +kernel
theorem d_Long_compare_6 : decode b_Long_compare 6 = .ok (.iconst (-1), 1) := by decide +kernel
theorem d_Long_compare_7 : decode b_Long_compare 7 = .ok (.goto 14, 3) := by decide +kernel
theorem d_Long_compare_10 : decode b_Long_compare 10 = .ok (.lload_n 0, 1) := by decide +kernel
theorem d_Long_compare_11 : decode b_Long_compare 11 = .ok (.lload_n 2, 1) := by decide +kernel
theorem d_Long_compare_12 : decode b_Long_compare 12 = .ok (.lcmp, 1) := by decide +kernel
theorem d_Long_compare_13 : decode b_Long_compare 13 = .ok (.ifCond .ne 7, 3) := by decide +kernel
theorem d_Long_compare_16 : decode b_Long_compare 16 = .ok (.iconst 0, 1) := by decide +kernel
theorem d_Long_compare_17 : decode b_Long_compare 17 = .ok (.goto 4, 3) := by decide +kernel
theorem d_Long_compare_20 : decode b_Long_compare 20 = .ok (.iconst 1, 1) := by decide +kernel
theorem d_Long_compare_21 : decode b_Long_compare 21 = .ok (.ireturn, 1) := by decide +kernel
abbrev b_Long_compareUnsigned : ByteArray := prog_18_method_43_code
def y_Long_compareUnsigned : MethodName := ⟨"java/lang/Long", "compareUnsigned", "(JJ)I"⟩
theorem d_Long_compareUnsigned_0 : decode b_Long_compareUnsigned 0 = .ok (.lload_n 0, 1) := by decide +kernel
theorem d_Long_compareUnsigned_1 : decode b_Long_compareUnsigned 1 = .ok (.ldc2_w 168, 3) := by decide +kernel
theorem d_Long_compareUnsigned_4 : decode b_Long_compareUnsigned 4 = .ok (.ladd, 1) := by decide +kernel
theorem d_Long_compareUnsigned_5 : decode b_Long_compareUnsigned 5 = .ok (.lload_n 2, 1) := by decide +kernel
theorem d_Long_compareUnsigned_6 : decode b_Long_compareUnsigned 6 = .ok (.ldc2_w 168, 3) := by decide +kernel
theorem d_Long_compareUnsigned_9 : decode b_Long_compareUnsigned 9 = .ok (.ladd, 1) := by decide +kernel
theorem d_Long_compareUnsigned_10 : decode b_Long_compareUnsigned 10 = .ok (.invokestatic 302, 3) := by decide +kernel
theorem d_Long_compareUnsigned_13 : decode b_Long_compareUnsigned 13 = .ok (.ireturn, 1) := by decide +kernel
abbrev b_Integer_numberOfTrailingZeros : ByteArray := prog_17_method_48_code
def y_Integer_numberOfTrailingZeros : MethodName := ⟨"java/lang/Integer", "numberOfTrailingZeros", "(I)I"⟩
theorem d_Integer_numberOfTrailingZeros_0 : decode b_Integer_numberOfTrailingZeros 0 = .ok (.iload_n 0, 1) := by decide +kernel
theorem d_Integer_numberOfTrailingZeros_1 : decode b_Integer_numberOfTrailingZeros 1 = .ok (.iconst (-1), 1) := by decide +kernel
theorem d_Integer_numberOfTrailingZeros_2 : decode b_Integer_numberOfTrailingZeros 2 = .ok (.ixor, 1) := by decide +kernel
theorem d_Integer_numberOfTrailingZeros_3 : decode b_Integer_numberOfTrailingZeros 3 = .ok (.iload_n 0, 1) := by decide +kernel
theorem d_Integer_numberOfTrailingZeros_4 : decode b_Integer_numberOfTrailingZeros 4 = .ok (.iconst 1, 1) := by decide +kernel
theorem d_Integer_numberOfTrailingZeros_5 : decode b_Integer_numberOfTrailingZeros 5 = .ok (.isub, 1) := by decide +kernel
theorem d_Integer_numberOfTrailingZeros_6 : decode b_Integer_numberOfTrailingZeros 6 = .ok (.iand, 1) := by decide +kernel
theorem d_Integer_numberOfTrailingZeros_7 : decode b_Integer_numberOfTrailingZeros 7 = .ok (.istore_n 0, 1) := by decide +kernel
theorem d_Integer_numberOfTrailingZeros_8 : decode b_Integer_numberOfTrailingZeros 8 = .ok (.iload_n 0, 1) := by decide +kernel
theorem d_Integer_numberOfTrailingZeros_9 : decode b_Integer_numberOfTrailingZeros 9 = .ok (.ifCond .gt 8, 3) := by decide +kernel
theorem d_Integer_numberOfTrailingZeros_12 : decode b_Integer_numberOfTrailingZeros 12 = .ok (.iload_n 0, 1) := by decide +kernel
theorem d_Integer_numberOfTrailingZeros_13 : decode b_Integer_numberOfTrailingZeros 13 = .ok (.bipush 32, 2) := by decide +kernel
theorem d_Integer_numberOfTrailingZeros_15 : decode b_Integer_numberOfTrailingZeros 15 = .ok (.iand, 1) := by decide +kernel
theorem d_Integer_numberOfTrailingZeros_16 : decode b_Integer_numberOfTrailingZeros 16 = .ok (.ireturn, 1) := by decide +kernel
theorem d_Integer_numberOfTrailingZeros_17 : decode b_Integer_numberOfTrailingZeros 17 = .ok (.iconst 1, 1) := by decide +kernel
theorem d_Integer_numberOfTrailingZeros_18 : decode b_Integer_numberOfTrailingZeros 18 = .ok (.istore_n 1, 1) := by decide +kernel
theorem d_Integer_numberOfTrailingZeros_19 : decode b_Integer_numberOfTrailingZeros 19 = .ok (.iload_n 0, 1) := by decide +kernel
theorem d_Integer_numberOfTrailingZeros_20 : decode b_Integer_numberOfTrailingZeros 20 = .ok (.ldc_w 264, 3) := by decide +kernel
theorem d_Integer_numberOfTrailingZeros_23 : decode b_Integer_numberOfTrailingZeros 23 = .ok (.if_icmp .le 11, 3) := by decide +kernel
theorem d_Integer_numberOfTrailingZeros_26 : decode b_Integer_numberOfTrailingZeros 26 = .ok (.iinc 1 16, 3) := by decide +kernel
theorem d_Integer_numberOfTrailingZeros_29 : decode b_Integer_numberOfTrailingZeros 29 = .ok (.iload_n 0, 1) := by decide +kernel
theorem d_Integer_numberOfTrailingZeros_30 : decode b_Integer_numberOfTrailingZeros 30 = .ok (.bipush 16, 2) := by decide +kernel
theorem d_Integer_numberOfTrailingZeros_32 : decode b_Integer_numberOfTrailingZeros 32 = .ok (.iushr, 1) := by decide +kernel
theorem d_Integer_numberOfTrailingZeros_33 : decode b_Integer_numberOfTrailingZeros 33 = .ok (.istore_n 0, 1) := by decide +kernel
theorem d_Integer_numberOfTrailingZeros_34 : decode b_Integer_numberOfTrailingZeros 34 = .ok (.iload_n 0, 1) := by decide +kernel
theorem d_Integer_numberOfTrailingZeros_35 : decode b_Integer_numberOfTrailingZeros 35 = .ok (.sipush 256, 3) := by decide +kernel
theorem d_Integer_numberOfTrailingZeros_38 : decode b_Integer_numberOfTrailingZeros 38 = .ok (.if_icmp .le 11, 3) := by decide +kernel
theorem d_Integer_numberOfTrailingZeros_41 : decode b_Integer_numberOfTrailingZeros 41 = .ok (.iinc 1 8, 3) := by decide +kernel
theorem d_Integer_numberOfTrailingZeros_44 : decode b_Integer_numberOfTrailingZeros 44 = .ok (.iload_n 0, 1) := by decide +kernel
theorem d_Integer_numberOfTrailingZeros_45 : decode b_Integer_numberOfTrailingZeros 45 = .ok (.bipush 8, 2) := by decide +kernel
theorem d_Integer_numberOfTrailingZeros_47 : decode b_Integer_numberOfTrailingZeros 47 = .ok (.iushr, 1) := by decide +kernel
theorem d_Integer_numberOfTrailingZeros_48 : decode b_Integer_numberOfTrailingZeros 48 = .ok (.istore_n 0, 1) := by decide +kernel
theorem d_Integer_numberOfTrailingZeros_49 : decode b_Integer_numberOfTrailingZeros 49 = .ok (.iload_n 0, 1) := by decide +kernel
theorem d_Integer_numberOfTrailingZeros_50 : decode b_Integer_numberOfTrailingZeros 50 = .ok (.bipush 16, 2) := by decide +kernel
theorem d_Integer_numberOfTrailingZeros_52 : decode b_Integer_numberOfTrailingZeros 52 = .ok (.if_icmp .le 10, 3) := by decide +kernel
theorem d_Integer_numberOfTrailingZeros_55 : decode b_Integer_numberOfTrailingZeros 55 = .ok (.iinc 1 4, 3) := by decide +kernel
theorem d_Integer_numberOfTrailingZeros_58 : decode b_Integer_numberOfTrailingZeros 58 = .ok (.iload_n 0, 1) := by decide +kernel
theorem d_Integer_numberOfTrailingZeros_59 : decode b_Integer_numberOfTrailingZeros 59 = .ok (.iconst 4, 1) := by decide +kernel
theorem d_Integer_numberOfTrailingZeros_60 : decode b_Integer_numberOfTrailingZeros 60 = .ok (.iushr, 1) := by decide +kernel
theorem d_Integer_numberOfTrailingZeros_61 : decode b_Integer_numberOfTrailingZeros 61 = .ok (.istore_n 0, 1) := by decide +kernel
theorem d_Integer_numberOfTrailingZeros_62 : decode b_Integer_numberOfTrailingZeros 62 = .ok (.iload_n 0, 1) := by decide +kernel
theorem d_Integer_numberOfTrailingZeros_63 : decode b_Integer_numberOfTrailingZeros 63 = .ok (.iconst 4, 1) := by decide +kernel
theorem d_Integer_numberOfTrailingZeros_64 : decode b_Integer_numberOfTrailingZeros 64 = .ok (.if_icmp .le 10, 3) := by decide +kernel
theorem d_Integer_numberOfTrailingZeros_67 : decode b_Integer_numberOfTrailingZeros 67 = .ok (.iinc 1 2, 3) := by decide +kernel
theorem d_Integer_numberOfTrailingZeros_70 : decode b_Integer_numberOfTrailingZeros 70 = .ok (.iload_n 0, 1) := by decide +kernel
theorem d_Integer_numberOfTrailingZeros_71 : decode b_Integer_numberOfTrailingZeros 71 = .ok (.iconst 2, 1) := by decide +kernel
theorem d_Integer_numberOfTrailingZeros_72 : decode b_Integer_numberOfTrailingZeros 72 = .ok (.iushr, 1) := by decide +kernel
theorem d_Integer_numberOfTrailingZeros_73 : decode b_Integer_numberOfTrailingZeros 73 = .ok (.istore_n 0, 1) := by decide +kernel
theorem d_Integer_numberOfTrailingZeros_74 : decode b_Integer_numberOfTrailingZeros 74 = .ok (.iload_n 1, 1) := by decide +kernel
theorem d_Integer_numberOfTrailingZeros_75 : decode b_Integer_numberOfTrailingZeros 75 = .ok (.iload_n 0, 1) := by decide +kernel
theorem d_Integer_numberOfTrailingZeros_76 : decode b_Integer_numberOfTrailingZeros 76 = .ok (.iconst 1, 1) := by decide +kernel
theorem d_Integer_numberOfTrailingZeros_77 : decode b_Integer_numberOfTrailingZeros 77 = .ok (.iushr, 1) := by decide +kernel
theorem d_Integer_numberOfTrailingZeros_78 : decode b_Integer_numberOfTrailingZeros 78 = .ok (.iadd, 1) := by decide +kernel
theorem d_Integer_numberOfTrailingZeros_79 : decode b_Integer_numberOfTrailingZeros 79 = .ok (.ireturn, 1) := by decide +kernel
abbrev b_Long_numberOfTrailingZeros : ByteArray := prog_18_method_49_code
def y_Long_numberOfTrailingZeros : MethodName := ⟨"java/lang/Long", "numberOfTrailingZeros", "(J)I"⟩
theorem d_Long_numberOfTrailingZeros_0 : decode b_Long_numberOfTrailingZeros 0 = .ok (.lload_n 0, 1) := by decide +kernel
theorem d_Long_numberOfTrailingZeros_1 : decode b_Long_numberOfTrailingZeros 1 = .ok (.l2i, 1) := by decide +kernel
theorem d_Long_numberOfTrailingZeros_2 : decode b_Long_numberOfTrailingZeros 2 = .ok (.istore_n 2, 1) := by decide +kernel
theorem d_Long_numberOfTrailingZeros_3 : decode b_Long_numberOfTrailingZeros 3 = .ok (.iload_n 2, 1) := by decide +kernel
theorem d_Long_numberOfTrailingZeros_4 : decode b_Long_numberOfTrailingZeros 4 = .ok (.ifCond .ne 17, 3) := by decide +kernel
theorem d_Long_numberOfTrailingZeros_7 : decode b_Long_numberOfTrailingZeros 7 = .ok (.bipush 32, 2) := by decide +kernel
theorem d_Long_numberOfTrailingZeros_9 : decode b_Long_numberOfTrailingZeros 9 = .ok (.lload_n 0, 1) := by decide +kernel
theorem d_Long_numberOfTrailingZeros_10 : decode b_Long_numberOfTrailingZeros 10 = .ok (.bipush 32, 2) := by decide +kernel
theorem d_Long_numberOfTrailingZeros_12 : decode b_Long_numberOfTrailingZeros 12 = .ok (.lushr, 1) := by decide +kernel
theorem d_Long_numberOfTrailingZeros_13 : decode b_Long_numberOfTrailingZeros 13 = .ok (.l2i, 1) := by decide +kernel
theorem d_Long_numberOfTrailingZeros_14 : decode b_Long_numberOfTrailingZeros 14 = .ok (.invokestatic 311, 3) := by decide +kernel
theorem d_Long_numberOfTrailingZeros_17 : decode b_Long_numberOfTrailingZeros 17 = .ok (.iadd, 1) := by decide +kernel
theorem d_Long_numberOfTrailingZeros_18 : decode b_Long_numberOfTrailingZeros 18 = .ok (.goto 7, 3) := by decide +kernel
theorem d_Long_numberOfTrailingZeros_21 : decode b_Long_numberOfTrailingZeros 21 = .ok (.iload_n 2, 1) := by decide +kernel
theorem d_Long_numberOfTrailingZeros_22 : decode b_Long_numberOfTrailingZeros 22 = .ok (.invokestatic 311, 3) := by decide +kernel
theorem d_Long_numberOfTrailingZeros_25 : decode b_Long_numberOfTrailingZeros 25 = .ok (.ireturn, 1) := by decide +kernel
abbrev b_Long_bitCount : ByteArray := prog_18_method_50_code
def y_Long_bitCount : MethodName := ⟨"java/lang/Long", "bitCount", "(J)I"⟩
theorem d_Long_bitCount_0 : decode b_Long_bitCount 0 = .ok (.lload_n 0, 1) := by decide +kernel
theorem d_Long_bitCount_1 : decode b_Long_bitCount 1 = .ok (.lload_n 0, 1) := by decide +kernel
theorem d_Long_bitCount_2 : decode b_Long_bitCount 2 = .ok (.iconst 1, 1) := by decide +kernel
theorem d_Long_bitCount_3 : decode b_Long_bitCount 3 = .ok (.lushr, 1) := by decide +kernel
theorem d_Long_bitCount_4 : decode b_Long_bitCount 4 = .ok (.ldc2_w 314, 3) := by decide +kernel
theorem d_Long_bitCount_7 : decode b_Long_bitCount 7 = .ok (.land, 1) := by decide +kernel
theorem d_Long_bitCount_8 : decode b_Long_bitCount 8 = .ok (.lsub, 1) := by decide +kernel
theorem d_Long_bitCount_9 : decode b_Long_bitCount 9 = .ok (.lstore_n 0, 1) := by decide +kernel
theorem d_Long_bitCount_10 : decode b_Long_bitCount 10 = .ok (.lload_n 0, 1) := by decide +kernel
theorem d_Long_bitCount_11 : decode b_Long_bitCount 11 = .ok (.ldc2_w 316, 3) := by decide +kernel
theorem d_Long_bitCount_14 : decode b_Long_bitCount 14 = .ok (.land, 1) := by decide +kernel
theorem d_Long_bitCount_15 : decode b_Long_bitCount 15 = .ok (.lload_n 0, 1) := by decide +kernel
theorem d_Long_bitCount_16 : decode b_Long_bitCount 16 = .ok (.iconst 2, 1) := by decide +kernel
theorem d_Long_bitCount_17 : decode b_Long_bitCount 17 = .ok (.lushr, 1) := by decide +kernel
theorem d_Long_bitCount_18 : decode b_Long_bitCount 18 = .ok (.ldc2_w 316, 3) := by decide +kernel
theorem d_Long_bitCount_21 : decode b_Long_bitCount 21 = .ok (.land, 1) := by decide +kernel
theorem d_Long_bitCount_22 : decode b_Long_bitCount 22 = .ok (.ladd, 1) := by decide +kernel
theorem d_Long_bitCount_23 : decode b_Long_bitCount 23 = .ok (.lstore_n 0, 1) := by decide +kernel
theorem d_Long_bitCount_24 : decode b_Long_bitCount 24 = .ok (.lload_n 0, 1) := by decide +kernel
theorem d_Long_bitCount_25 : decode b_Long_bitCount 25 = .ok (.lload_n 0, 1) := by decide +kernel
theorem d_Long_bitCount_26 : decode b_Long_bitCount 26 = .ok (.iconst 4, 1) := by decide +kernel
theorem d_Long_bitCount_27 : decode b_Long_bitCount 27 = .ok (.lushr, 1) := by decide +kernel
theorem d_Long_bitCount_28 : decode b_Long_bitCount 28 = .ok (.ladd, 1) := by decide +kernel
theorem d_Long_bitCount_29 : decode b_Long_bitCount 29 = .ok (.ldc2_w 318, 3) := by decide +kernel
theorem d_Long_bitCount_32 : decode b_Long_bitCount 32 = .ok (.land, 1) := by decide +kernel
theorem d_Long_bitCount_33 : decode b_Long_bitCount 33 = .ok (.lstore_n 0, 1) := by decide +kernel
theorem d_Long_bitCount_34 : decode b_Long_bitCount 34 = .ok (.lload_n 0, 1) := by decide +kernel
theorem d_Long_bitCount_35 : decode b_Long_bitCount 35 = .ok (.lload_n 0, 1) := by decide +kernel
theorem d_Long_bitCount_36 : decode b_Long_bitCount 36 = .ok (.bipush 8, 2) := by decide +kernel
theorem d_Long_bitCount_38 : decode b_Long_bitCount 38 = .ok (.lushr, 1) := by decide +kernel
theorem d_Long_bitCount_39 : decode b_Long_bitCount 39 = .ok (.ladd, 1) := by decide +kernel
theorem d_Long_bitCount_40 : decode b_Long_bitCount 40 = .ok (.lstore_n 0, 1) := by decide +kernel
theorem d_Long_bitCount_41 : decode b_Long_bitCount 41 = .ok (.lload_n 0, 1) := by decide +kernel
theorem d_Long_bitCount_42 : decode b_Long_bitCount 42 = .ok (.lload_n 0, 1) := by decide +kernel
theorem d_Long_bitCount_43 : decode b_Long_bitCount 43 = .ok (.bipush 16, 2) := by decide +kernel
theorem d_Long_bitCount_45 : decode b_Long_bitCount 45 = .ok (.lushr, 1) := by decide +kernel
theorem d_Long_bitCount_46 : decode b_Long_bitCount 46 = .ok (.ladd, 1) := by decide +kernel
theorem d_Long_bitCount_47 : decode b_Long_bitCount 47 = .ok (.lstore_n 0, 1) := by decide +kernel
theorem d_Long_bitCount_48 : decode b_Long_bitCount 48 = .ok (.lload_n 0, 1) := by decide +kernel
theorem d_Long_bitCount_49 : decode b_Long_bitCount 49 = .ok (.lload_n 0, 1) := by decide +kernel
theorem d_Long_bitCount_50 : decode b_Long_bitCount 50 = .ok (.bipush 32, 2) := by decide +kernel
theorem d_Long_bitCount_52 : decode b_Long_bitCount 52 = .ok (.lushr, 1) := by decide +kernel
theorem d_Long_bitCount_53 : decode b_Long_bitCount 53 = .ok (.ladd, 1) := by decide +kernel
theorem d_Long_bitCount_54 : decode b_Long_bitCount 54 = .ok (.lstore_n 0, 1) := by decide +kernel
theorem d_Long_bitCount_55 : decode b_Long_bitCount 55 = .ok (.lload_n 0, 1) := by decide +kernel
theorem d_Long_bitCount_56 : decode b_Long_bitCount 56 = .ok (.l2i, 1) := by decide +kernel
theorem d_Long_bitCount_57 : decode b_Long_bitCount 57 = .ok (.bipush 127, 2) := by decide +kernel
theorem d_Long_bitCount_59 : decode b_Long_bitCount 59 = .ok (.iand, 1) := by decide +kernel
theorem d_Long_bitCount_60 : decode b_Long_bitCount 60 = .ok (.ireturn, 1) := by decide +kernel
abbrev b_Integer_rotateLeft : ByteArray := prog_17_method_50_code
def y_Integer_rotateLeft : MethodName := ⟨"java/lang/Integer", "rotateLeft", "(II)I"⟩
theorem d_Integer_rotateLeft_0 : decode b_Integer_rotateLeft 0 = .ok (.iload_n 0, 1) := by decide +kernel
theorem d_Integer_rotateLeft_1 : decode b_Integer_rotateLeft 1 = .ok (.iload_n 1, 1) := by decide +kernel
theorem d_Integer_rotateLeft_2 : decode b_Integer_rotateLeft 2 = .ok (.ishl, 1) := by decide +kernel
theorem d_Integer_rotateLeft_3 : decode b_Integer_rotateLeft 3 = .ok (.iload_n 0, 1) := by decide +kernel
theorem d_Integer_rotateLeft_4 : decode b_Integer_rotateLeft 4 = .ok (.iload_n 1, 1) := by decide +kernel
theorem d_Integer_rotateLeft_5 : decode b_Integer_rotateLeft 5 = .ok (.ineg, 1) := by decide +kernel
theorem d_Integer_rotateLeft_6 : decode b_Integer_rotateLeft 6 = .ok (.iushr, 1) := by decide +kernel
theorem d_Integer_rotateLeft_7 : decode b_Integer_rotateLeft 7 = .ok (.ior, 1) := by decide +kernel
theorem d_Integer_rotateLeft_8 : decode b_Integer_rotateLeft 8 = .ok (.ireturn, 1) := by decide +kernel
abbrev b_Long_rotateLeft : ByteArray := prog_18_method_51_code
def y_Long_rotateLeft : MethodName := ⟨"java/lang/Long", "rotateLeft", "(JI)J"⟩
theorem d_Long_rotateLeft_0 : decode b_Long_rotateLeft 0 = .ok (.lload_n 0, 1) := by decide +kernel
theorem d_Long_rotateLeft_1 : decode b_Long_rotateLeft 1 = .ok (.iload_n 2, 1) := by decide +kernel
theorem d_Long_rotateLeft_2 : decode b_Long_rotateLeft 2 = .ok (.lshl, 1) := by decide +kernel
theorem d_Long_rotateLeft_3 : decode b_Long_rotateLeft 3 = .ok (.lload_n 0, 1) := by decide +kernel
theorem d_Long_rotateLeft_4 : decode b_Long_rotateLeft 4 = .ok (.iload_n 2, 1) := by decide +kernel
theorem d_Long_rotateLeft_5 : decode b_Long_rotateLeft 5 = .ok (.ineg, 1) := by decide +kernel
theorem d_Long_rotateLeft_6 : decode b_Long_rotateLeft 6 = .ok (.lushr, 1) := by decide +kernel
theorem d_Long_rotateLeft_7 : decode b_Long_rotateLeft 7 = .ok (.lor, 1) := by decide +kernel
theorem d_Long_rotateLeft_8 : decode b_Long_rotateLeft 8 = .ok (.lreturn, 1) := by decide +kernel
abbrev b_Math_multiplyHigh : ByteArray := prog_19_method_45_code
def y_Math_multiplyHigh : MethodName := ⟨"java/lang/Math", "multiplyHigh", "(JJ)J"⟩
theorem d_Math_multiplyHigh_0 : decode b_Math_multiplyHigh 0 = .ok (.lload_n 0, 1) := by decide +kernel
theorem d_Math_multiplyHigh_1 : decode b_Math_multiplyHigh 1 = .ok (.bipush 32, 2) := by decide +kernel
theorem d_Math_multiplyHigh_3 : decode b_Math_multiplyHigh 3 = .ok (.lshr, 1) := by decide +kernel
theorem d_Math_multiplyHigh_4 : decode b_Math_multiplyHigh 4 = .ok (.lstore 4, 2) := by decide +kernel
theorem d_Math_multiplyHigh_6 : decode b_Math_multiplyHigh 6 = .ok (.lload_n 0, 1) := by decide +kernel
theorem d_Math_multiplyHigh_7 : decode b_Math_multiplyHigh 7 = .ok (.ldc2_w 138, 3) := by decide +kernel
theorem d_Math_multiplyHigh_10 : decode b_Math_multiplyHigh 10 = .ok (.land, 1) := by decide +kernel
theorem d_Math_multiplyHigh_11 : decode b_Math_multiplyHigh 11 = .ok (.lstore 6, 2) := by decide +kernel
theorem d_Math_multiplyHigh_13 : decode b_Math_multiplyHigh 13 = .ok (.lload_n 2, 1) := by decide +kernel
theorem d_Math_multiplyHigh_14 : decode b_Math_multiplyHigh 14 = .ok (.bipush 32, 2) := by decide +kernel
theorem d_Math_multiplyHigh_16 : decode b_Math_multiplyHigh 16 = .ok (.lshr, 1) := by decide +kernel
theorem d_Math_multiplyHigh_17 : decode b_Math_multiplyHigh 17 = .ok (.lstore 8, 2) := by decide +kernel
theorem d_Math_multiplyHigh_19 : decode b_Math_multiplyHigh 19 = .ok (.lload_n 2, 1) := by decide +kernel
theorem d_Math_multiplyHigh_20 : decode b_Math_multiplyHigh 20 = .ok (.ldc2_w 138, 3) := by decide +kernel
theorem d_Math_multiplyHigh_23 : decode b_Math_multiplyHigh 23 = .ok (.land, 1) := by decide +kernel
theorem d_Math_multiplyHigh_24 : decode b_Math_multiplyHigh 24 = .ok (.lstore 10, 2) := by decide +kernel
theorem d_Math_multiplyHigh_26 : decode b_Math_multiplyHigh 26 = .ok (.lload 6, 2) := by decide +kernel
theorem d_Math_multiplyHigh_28 : decode b_Math_multiplyHigh 28 = .ok (.lload 10, 2) := by decide +kernel
theorem d_Math_multiplyHigh_30 : decode b_Math_multiplyHigh 30 = .ok (.lmul, 1) := by decide +kernel
theorem d_Math_multiplyHigh_31 : decode b_Math_multiplyHigh 31 = .ok (.lstore 12, 2) := by decide +kernel
theorem d_Math_multiplyHigh_33 : decode b_Math_multiplyHigh 33 = .ok (.lload 4, 2) := by decide +kernel
theorem d_Math_multiplyHigh_35 : decode b_Math_multiplyHigh 35 = .ok (.lload 10, 2) := by decide +kernel
theorem d_Math_multiplyHigh_37 : decode b_Math_multiplyHigh 37 = .ok (.lmul, 1) := by decide +kernel
theorem d_Math_multiplyHigh_38 : decode b_Math_multiplyHigh 38 = .ok (.lload 12, 2) := by decide +kernel
theorem d_Math_multiplyHigh_40 : decode b_Math_multiplyHigh 40 = .ok (.bipush 32, 2) := by decide +kernel
theorem d_Math_multiplyHigh_42 : decode b_Math_multiplyHigh 42 = .ok (.lushr, 1) := by decide +kernel
theorem d_Math_multiplyHigh_43 : decode b_Math_multiplyHigh 43 = .ok (.ladd, 1) := by decide +kernel
theorem d_Math_multiplyHigh_44 : decode b_Math_multiplyHigh 44 = .ok (.lstore 14, 2) := by decide +kernel
theorem d_Math_multiplyHigh_46 : decode b_Math_multiplyHigh 46 = .ok (.lload 14, 2) := by decide +kernel
theorem d_Math_multiplyHigh_48 : decode b_Math_multiplyHigh 48 = .ok (.ldc2_w 138, 3) := by decide +kernel
theorem d_Math_multiplyHigh_51 : decode b_Math_multiplyHigh 51 = .ok (.land, 1) := by decide +kernel
theorem d_Math_multiplyHigh_52 : decode b_Math_multiplyHigh 52 = .ok (.lstore 16, 2) := by decide +kernel
theorem d_Math_multiplyHigh_54 : decode b_Math_multiplyHigh 54 = .ok (.lload 14, 2) := by decide +kernel
theorem d_Math_multiplyHigh_56 : decode b_Math_multiplyHigh 56 = .ok (.bipush 32, 2) := by decide +kernel
theorem d_Math_multiplyHigh_58 : decode b_Math_multiplyHigh 58 = .ok (.lshr, 1) := by decide +kernel
theorem d_Math_multiplyHigh_59 : decode b_Math_multiplyHigh 59 = .ok (.lstore 18, 2) := by decide +kernel
theorem d_Math_multiplyHigh_61 : decode b_Math_multiplyHigh 61 = .ok (.lload 16, 2) := by decide +kernel
theorem d_Math_multiplyHigh_63 : decode b_Math_multiplyHigh 63 = .ok (.lload 6, 2) := by decide +kernel
theorem d_Math_multiplyHigh_65 : decode b_Math_multiplyHigh 65 = .ok (.lload 8, 2) := by decide +kernel
theorem d_Math_multiplyHigh_67 : decode b_Math_multiplyHigh 67 = .ok (.lmul, 1) := by decide +kernel
theorem d_Math_multiplyHigh_68 : decode b_Math_multiplyHigh 68 = .ok (.ladd, 1) := by decide +kernel
theorem d_Math_multiplyHigh_69 : decode b_Math_multiplyHigh 69 = .ok (.lstore 16, 2) := by decide +kernel
theorem d_Math_multiplyHigh_71 : decode b_Math_multiplyHigh 71 = .ok (.lload 4, 2) := by decide +kernel
theorem d_Math_multiplyHigh_73 : decode b_Math_multiplyHigh 73 = .ok (.lload 8, 2) := by decide +kernel
theorem d_Math_multiplyHigh_75 : decode b_Math_multiplyHigh 75 = .ok (.lmul, 1) := by decide +kernel
theorem d_Math_multiplyHigh_76 : decode b_Math_multiplyHigh 76 = .ok (.lload 18, 2) := by decide +kernel
theorem d_Math_multiplyHigh_78 : decode b_Math_multiplyHigh 78 = .ok (.ladd, 1) := by decide +kernel
theorem d_Math_multiplyHigh_79 : decode b_Math_multiplyHigh 79 = .ok (.lload 16, 2) := by decide +kernel
theorem d_Math_multiplyHigh_81 : decode b_Math_multiplyHigh 81 = .ok (.bipush 32, 2) := by decide +kernel
theorem d_Math_multiplyHigh_83 : decode b_Math_multiplyHigh 83 = .ok (.lshr, 1) := by decide +kernel
theorem d_Math_multiplyHigh_84 : decode b_Math_multiplyHigh 84 = .ok (.ladd, 1) := by decide +kernel
theorem d_Math_multiplyHigh_85 : decode b_Math_multiplyHigh 85 = .ok (.lreturn, 1) := by decide +kernel
abbrev b_Bits_lowest : ByteArray := prog_2_method_2_code
def y_Bits_lowest : MethodName := ⟨"BitArithmetic$Bits", "lowest", "(IJ)J"⟩
theorem d_Bits_lowest_0 : decode b_Bits_lowest 0 = .ok (.iload_n 0, 1) := by decide +kernel
theorem d_Bits_lowest_1 : decode b_Bits_lowest 1 = .ok (.bipush 32, 2) := by decide +kernel
theorem d_Bits_lowest_3 : decode b_Bits_lowest 3 = .ok (.if_icmp .ne 11, 3) := by decide +kernel
theorem d_Bits_lowest_6 : decode b_Bits_lowest 6 = .ok (.lload_n 1, 1) := by decide +kernel
theorem d_Bits_lowest_7 : decode b_Bits_lowest 7 = .ok (.ldc2_w 7, 3) := by decide +kernel
theorem d_Bits_lowest_10 : decode b_Bits_lowest 10 = .ok (.land, 1) := by decide +kernel
theorem d_Bits_lowest_11 : decode b_Bits_lowest 11 = .ok (.goto 4, 3) := by decide +kernel
theorem d_Bits_lowest_14 : decode b_Bits_lowest 14 = .ok (.lload_n 1, 1) := by decide +kernel
theorem d_Bits_lowest_15 : decode b_Bits_lowest 15 = .ok (.lreturn, 1) := by decide +kernel
abbrev b_Bits_signed : ByteArray := prog_2_method_3_code
def y_Bits_signed : MethodName := ⟨"BitArithmetic$Bits", "signed", "(IJ)J"⟩
theorem d_Bits_signed_0 : decode b_Bits_signed 0 = .ok (.iload_n 0, 1) := by decide +kernel
theorem d_Bits_signed_1 : decode b_Bits_signed 1 = .ok (.bipush 32, 2) := by decide +kernel
theorem d_Bits_signed_3 : decode b_Bits_signed 3 = .ok (.if_icmp .ne 9, 3) := by decide +kernel
theorem d_Bits_signed_6 : decode b_Bits_signed 6 = .ok (.lload_n 1, 1) := by decide +kernel
theorem d_Bits_signed_7 : decode b_Bits_signed 7 = .ok (.l2i, 1) := by decide +kernel
theorem d_Bits_signed_8 : decode b_Bits_signed 8 = .ok (.i2l, 1) := by decide +kernel
theorem d_Bits_signed_9 : decode b_Bits_signed 9 = .ok (.goto 4, 3) := by decide +kernel
theorem d_Bits_signed_12 : decode b_Bits_signed 12 = .ok (.lload_n 1, 1) := by decide +kernel
theorem d_Bits_signed_13 : decode b_Bits_signed 13 = .ok (.lreturn, 1) := by decide +kernel
abbrev b_Bits_marked : ByteArray := prog_2_method_5_code
def y_Bits_marked : MethodName := ⟨"BitArithmetic$Bits", "marked", "(JJ)J"⟩
theorem d_Bits_marked_0 : decode b_Bits_marked 0 = .ok (.lload_n 2, 1) := by decide +kernel
theorem d_Bits_marked_1 : decode b_Bits_marked 1 = .ok (.lconst 0, 1) := by decide +kernel
theorem d_Bits_marked_2 : decode b_Bits_marked 2 = .ok (.lcmp, 1) := by decide +kernel
theorem d_Bits_marked_3 : decode b_Bits_marked 3 = .ok (.ifCond .ne 7, 3) := by decide +kernel
theorem d_Bits_marked_6 : decode b_Bits_marked 6 = .ok (.lload_n 0, 1) := by decide +kernel
theorem d_Bits_marked_7 : decode b_Bits_marked 7 = .ok (.goto 6, 3) := by decide +kernel
theorem d_Bits_marked_10 : decode b_Bits_marked 10 = .ok (.lload_n 0, 1) := by decide +kernel
theorem d_Bits_marked_11 : decode b_Bits_marked 11 = .ok (.lconst 1, 1) := by decide +kernel
theorem d_Bits_marked_12 : decode b_Bits_marked 12 = .ok (.lor, 1) := by decide +kernel
theorem d_Bits_marked_13 : decode b_Bits_marked 13 = .ok (.lreturn, 1) := by decide +kernel
abbrev b_Bits_movedDown : ByteArray := prog_2_method_4_code
def y_Bits_movedDown : MethodName := ⟨"BitArithmetic$Bits", "movedDown", "(JI)J"⟩
theorem d_Bits_movedDown_0 : decode b_Bits_movedDown 0 = .ok (.iload_n 2, 1) := by decide +kernel
theorem d_Bits_movedDown_1 : decode b_Bits_movedDown 1 = .ok (.ifCond .gt 5, 3) := by decide +kernel
theorem d_Bits_movedDown_4 : decode b_Bits_movedDown 4 = .ok (.lload_n 0, 1) := by decide +kernel
theorem d_Bits_movedDown_5 : decode b_Bits_movedDown 5 = .ok (.lreturn, 1) := by decide +kernel
theorem d_Bits_movedDown_6 : decode b_Bits_movedDown 6 = .ok (.iload_n 2, 1) := by decide +kernel
theorem d_Bits_movedDown_7 : decode b_Bits_movedDown 7 = .ok (.bipush 64, 2) := by decide +kernel
theorem d_Bits_movedDown_9 : decode b_Bits_movedDown 9 = .ok (.if_icmp .lt 9, 3) := by decide +kernel
theorem d_Bits_movedDown_12 : decode b_Bits_movedDown 12 = .ok (.lconst 0, 1) := by decide +kernel
theorem d_Bits_movedDown_13 : decode b_Bits_movedDown 13 = .ok (.lload_n 0, 1) := by decide +kernel
theorem d_Bits_movedDown_14 : decode b_Bits_movedDown 14 = .ok (.invokestatic 9, 3) := by decide +kernel
theorem d_Bits_movedDown_17 : decode b_Bits_movedDown 17 = .ok (.lreturn, 1) := by decide +kernel
theorem d_Bits_movedDown_18 : decode b_Bits_movedDown 18 = .ok (.lload_n 0, 1) := by decide +kernel
theorem d_Bits_movedDown_19 : decode b_Bits_movedDown 19 = .ok (.iload_n 2, 1) := by decide +kernel
theorem d_Bits_movedDown_20 : decode b_Bits_movedDown 20 = .ok (.lushr, 1) := by decide +kernel
theorem d_Bits_movedDown_21 : decode b_Bits_movedDown 21 = .ok (.lload_n 0, 1) := by decide +kernel
theorem d_Bits_movedDown_22 : decode b_Bits_movedDown 22 = .ok (.bipush 64, 2) := by decide +kernel
theorem d_Bits_movedDown_24 : decode b_Bits_movedDown 24 = .ok (.iload_n 2, 1) := by decide +kernel
theorem d_Bits_movedDown_25 : decode b_Bits_movedDown 25 = .ok (.isub, 1) := by decide +kernel
theorem d_Bits_movedDown_26 : decode b_Bits_movedDown 26 = .ok (.lshl, 1) := by decide +kernel
theorem d_Bits_movedDown_27 : decode b_Bits_movedDown 27 = .ok (.invokestatic 9, 3) := by decide +kernel
theorem d_Bits_movedDown_30 : decode b_Bits_movedDown 30 = .ok (.lreturn, 1) := by decide +kernel
abbrev b_Form_sign : ByteArray := prog_5_method_4_code
def y_Form_sign : MethodName := ⟨"BitArithmetic$Form", "sign", "(J)J"⟩
theorem d_Form_sign_0 : decode b_Form_sign 0 = .ok (.lload_n 1, 1) := by decide +kernel
theorem d_Form_sign_1 : decode b_Form_sign 1 = .ok (.aload_n 0, 1) := by decide +kernel
theorem d_Form_sign_2 : decode b_Form_sign 2 = .ok (.getfield 39, 3) := by decide +kernel
theorem d_Form_sign_5 : decode b_Form_sign 5 = .ok (.land, 1) := by decide +kernel
theorem d_Form_sign_6 : decode b_Form_sign 6 = .ok (.lreturn, 1) := by decide +kernel
abbrev b_Form_withoutSign : ByteArray := prog_5_method_5_code
def y_Form_withoutSign : MethodName := ⟨"BitArithmetic$Form", "withoutSign", "(J)J"⟩
theorem d_Form_withoutSign_0 : decode b_Form_withoutSign 0 = .ok (.lload_n 1, 1) := by decide +kernel
theorem d_Form_withoutSign_1 : decode b_Form_withoutSign 1 = .ok (.aload_n 0, 1) := by decide +kernel
theorem d_Form_withoutSign_2 : decode b_Form_withoutSign 2 = .ok (.getfield 39, 3) := by decide +kernel
theorem d_Form_withoutSign_5 : decode b_Form_withoutSign 5 = .ok (.lconst 1, 1) := by decide +kernel
theorem d_Form_withoutSign_6 : decode b_Form_withoutSign 6 = .ok (.lsub, 1) := by decide +kernel
theorem d_Form_withoutSign_7 : decode b_Form_withoutSign 7 = .ok (.land, 1) := by decide +kernel
theorem d_Form_withoutSign_8 : decode b_Form_withoutSign 8 = .ok (.lreturn, 1) := by decide +kernel
abbrev b_Form_isNoNumber : ByteArray := prog_5_method_6_code
def y_Form_isNoNumber : MethodName := ⟨"BitArithmetic$Form", "isNoNumber", "(J)Z"⟩
theorem d_Form_isNoNumber_0 : decode b_Form_isNoNumber 0 = .ok (.aload_n 0, 1) := by decide +kernel
theorem d_Form_isNoNumber_1 : decode b_Form_isNoNumber 1 = .ok (.lload_n 1, 1) := by decide +kernel
theorem d_Form_isNoNumber_2 : decode b_Form_isNoNumber 2 = .ok (.invokevirtual 49, 3) := by decide +kernel
theorem d_Form_isNoNumber_5 : decode b_Form_isNoNumber 5 = .ok (.aload_n 0, 1) := by decide +kernel
theorem d_Form_isNoNumber_6 : decode b_Form_isNoNumber 6 = .ok (.getfield 43, 3) := by decide +kernel
theorem d_Form_isNoNumber_9 : decode b_Form_isNoNumber 9 = .ok (.lcmp, 1) := by decide +kernel
theorem d_Form_isNoNumber_10 : decode b_Form_isNoNumber 10 = .ok (.ifCond .le 7, 3) := by decide +kernel
theorem d_Form_isNoNumber_13 : decode b_Form_isNoNumber 13 = .ok (.iconst 1, 1) := by decide +kernel
theorem d_Form_isNoNumber_14 : decode b_Form_isNoNumber 14 = .ok (.goto 4, 3) := by decide +kernel
theorem d_Form_isNoNumber_17 : decode b_Form_isNoNumber 17 = .ok (.iconst 0, 1) := by decide +kernel
theorem d_Form_isNoNumber_18 : decode b_Form_isNoNumber 18 = .ok (.ireturn, 1) := by decide +kernel
abbrev b_Form_isInfinite : ByteArray := prog_5_method_7_code
def y_Form_isInfinite : MethodName := ⟨"BitArithmetic$Form", "isInfinite", "(J)Z"⟩
theorem d_Form_isInfinite_0 : decode b_Form_isInfinite 0 = .ok (.aload_n 0, 1) := by decide +kernel
theorem d_Form_isInfinite_1 : decode b_Form_isInfinite 1 = .ok (.lload_n 1, 1) := by decide +kernel
theorem d_Form_isInfinite_2 : decode b_Form_isInfinite 2 = .ok (.invokevirtual 49, 3) := by decide +kernel
theorem d_Form_isInfinite_5 : decode b_Form_isInfinite 5 = .ok (.aload_n 0, 1) := by decide +kernel
theorem d_Form_isInfinite_6 : decode b_Form_isInfinite 6 = .ok (.getfield 43, 3) := by decide +kernel
theorem d_Form_isInfinite_9 : decode b_Form_isInfinite 9 = .ok (.lcmp, 1) := by decide +kernel
theorem d_Form_isInfinite_10 : decode b_Form_isInfinite 10 = .ok (.ifCond .ne 7, 3) := by decide +kernel
theorem d_Form_isInfinite_13 : decode b_Form_isInfinite 13 = .ok (.iconst 1, 1) := by decide +kernel
theorem d_Form_isInfinite_14 : decode b_Form_isInfinite 14 = .ok (.goto 4, 3) := by decide +kernel
theorem d_Form_isInfinite_17 : decode b_Form_isInfinite 17 = .ok (.iconst 0, 1) := by decide +kernel
theorem d_Form_isInfinite_18 : decode b_Form_isInfinite 18 = .ok (.ireturn, 1) := by decide +kernel
abbrev b_Form_isZero : ByteArray := prog_5_method_8_code
def y_Form_isZero : MethodName := ⟨"BitArithmetic$Form", "isZero", "(J)Z"⟩
theorem d_Form_isZero_0 : decode b_Form_isZero 0 = .ok (.aload_n 0, 1) := by decide +kernel
theorem d_Form_isZero_1 : decode b_Form_isZero 1 = .ok (.lload_n 1, 1) := by decide +kernel
theorem d_Form_isZero_2 : decode b_Form_isZero 2 = .ok (.invokevirtual 49, 3) := by decide +kernel
theorem d_Form_isZero_5 : decode b_Form_isZero 5 = .ok (.lconst 0, 1) := by decide +kernel
theorem d_Form_isZero_6 : decode b_Form_isZero 6 = .ok (.lcmp, 1) := by decide +kernel
theorem d_Form_isZero_7 : decode b_Form_isZero 7 = .ok (.ifCond .ne 7, 3) := by decide +kernel
theorem d_Form_isZero_10 : decode b_Form_isZero 10 = .ok (.iconst 1, 1) := by decide +kernel
theorem d_Form_isZero_11 : decode b_Form_isZero 11 = .ok (.goto 4, 3) := by decide +kernel
theorem d_Form_isZero_14 : decode b_Form_isZero 14 = .ok (.iconst 0, 1) := by decide +kernel
theorem d_Form_isZero_15 : decode b_Form_isZero 15 = .ok (.ireturn, 1) := by decide +kernel
abbrev b_Form_exponent : ByteArray := prog_5_method_9_code
def y_Form_exponent : MethodName := ⟨"BitArithmetic$Form", "exponent", "(J)I"⟩
theorem d_Form_exponent_0 : decode b_Form_exponent 0 = .ok (.lload_n 1, 1) := by decide +kernel
theorem d_Form_exponent_1 : decode b_Form_exponent 1 = .ok (.aload_n 0, 1) := by decide +kernel
theorem d_Form_exponent_2 : decode b_Form_exponent 2 = .ok (.getfield 39, 3) := by decide +kernel
theorem d_Form_exponent_5 : decode b_Form_exponent 5 = .ok (.lconst 1, 1) := by decide +kernel
theorem d_Form_exponent_6 : decode b_Form_exponent 6 = .ok (.lsub, 1) := by decide +kernel
theorem d_Form_exponent_7 : decode b_Form_exponent 7 = .ok (.land, 1) := by decide +kernel
theorem d_Form_exponent_8 : decode b_Form_exponent 8 = .ok (.aload_n 0, 1) := by decide +kernel
theorem d_Form_exponent_9 : decode b_Form_exponent 9 = .ok (.getfield 33, 3) := by decide +kernel
theorem d_Form_exponent_12 : decode b_Form_exponent 12 = .ok (.lushr, 1) := by decide +kernel
theorem d_Form_exponent_13 : decode b_Form_exponent 13 = .ok (.l2i, 1) := by decide +kernel
theorem d_Form_exponent_14 : decode b_Form_exponent 14 = .ok (.ireturn, 1) := by decide +kernel
abbrev b_Form_significand : ByteArray := prog_5_method_10_code
def y_Form_significand : MethodName := ⟨"BitArithmetic$Form", "significand", "(J)J"⟩
theorem d_Form_significand_0 : decode b_Form_significand 0 = .ok (.lconst 1, 1) := by decide +kernel
theorem d_Form_significand_1 : decode b_Form_significand 1 = .ok (.aload_n 0, 1) := by decide +kernel
theorem d_Form_significand_2 : decode b_Form_significand 2 = .ok (.getfield 33, 3) := by decide +kernel
theorem d_Form_significand_5 : decode b_Form_significand 5 = .ok (.lshl, 1) := by decide +kernel
theorem d_Form_significand_6 : decode b_Form_significand 6 = .ok (.lstore_n 3, 1) := by decide +kernel
theorem d_Form_significand_7 : decode b_Form_significand 7 = .ok (.lload_n 1, 1) := by decide +kernel
theorem d_Form_significand_8 : decode b_Form_significand 8 = .ok (.lload_n 3, 1) := by decide +kernel
theorem d_Form_significand_9 : decode b_Form_significand 9 = .ok (.lconst 1, 1) := by decide +kernel
theorem d_Form_significand_10 : decode b_Form_significand 10 = .ok (.lsub, 1) := by decide +kernel
theorem d_Form_significand_11 : decode b_Form_significand 11 = .ok (.land, 1) := by decide +kernel
theorem d_Form_significand_12 : decode b_Form_significand 12 = .ok (.lstore 5, 2) := by decide +kernel
theorem d_Form_significand_14 : decode b_Form_significand 14 = .ok (.aload_n 0, 1) := by decide +kernel
theorem d_Form_significand_15 : decode b_Form_significand 15 = .ok (.lload_n 1, 1) := by decide +kernel
theorem d_Form_significand_16 : decode b_Form_significand 16 = .ok (.invokevirtual 53, 3) := by decide +kernel
theorem d_Form_significand_19 : decode b_Form_significand 19 = .ok (.ifCond .ne 8, 3) := by decide +kernel
theorem d_Form_significand_22 : decode b_Form_significand 22 = .ok (.lload 5, 2) := by decide +kernel
theorem d_Form_significand_24 : decode b_Form_significand 24 = .ok (.goto 7, 3) := by decide +kernel
theorem d_Form_significand_27 : decode b_Form_significand 27 = .ok (.lload 5, 2) := by decide +kernel
theorem d_Form_significand_29 : decode b_Form_significand 29 = .ok (.lload_n 3, 1) := by decide +kernel
theorem d_Form_significand_30 : decode b_Form_significand 30 = .ok (.lor, 1) := by decide +kernel
theorem d_Form_significand_31 : decode b_Form_significand 31 = .ok (.lreturn, 1) := by decide +kernel
abbrev b_Form_scale : ByteArray := prog_5_method_11_code
def y_Form_scale : MethodName := ⟨"BitArithmetic$Form", "scale", "(J)I"⟩
theorem d_Form_scale_0 : decode b_Form_scale 0 = .ok (.aload_n 0, 1) := by decide +kernel
theorem d_Form_scale_1 : decode b_Form_scale 1 = .ok (.lload_n 1, 1) := by decide +kernel
theorem d_Form_scale_2 : decode b_Form_scale 2 = .ok (.invokevirtual 53, 3) := by decide +kernel
theorem d_Form_scale_5 : decode b_Form_scale 5 = .ok (.iconst 1, 1) := by decide +kernel
theorem d_Form_scale_6 : decode b_Form_scale 6 = .ok (.invokestatic 57, 3) := by decide +kernel
theorem d_Form_scale_9 : decode b_Form_scale 9 = .ok (.aload_n 0, 1) := by decide +kernel
theorem d_Form_scale_10 : decode b_Form_scale 10 = .ok (.getfield 36, 3) := by decide +kernel
theorem d_Form_scale_13 : decode b_Form_scale 13 = .ok (.isub, 1) := by decide +kernel
theorem d_Form_scale_14 : decode b_Form_scale 14 = .ok (.aload_n 0, 1) := by decide +kernel
theorem d_Form_scale_15 : decode b_Form_scale 15 = .ok (.getfield 33, 3) := by decide +kernel
theorem d_Form_scale_18 : decode b_Form_scale 18 = .ok (.isub, 1) := by decide +kernel
theorem d_Form_scale_19 : decode b_Form_scale 19 = .ok (.ireturn, 1) := by decide +kernel
abbrev b_Form_nearest : ByteArray := prog_5_method_13_code
def y_Form_nearest : MethodName := ⟨"BitArithmetic$Form", "nearest", "(JJ)J"⟩
theorem d_Form_nearest_0 : decode b_Form_nearest 0 = .ok (.lload_n 2, 1) := by decide +kernel
theorem d_Form_nearest_1 : decode b_Form_nearest 1 = .ok (.ldc2_w 72, 3) := by decide +kernel
theorem d_Form_nearest_4 : decode b_Form_nearest 4 = .ok (.lcmp, 1) := by decide +kernel
theorem d_Form_nearest_5 : decode b_Form_nearest 5 = .ok (.ifCond .ne 9, 3) := by decide +kernel
theorem d_Form_nearest_8 : decode b_Form_nearest 8 = .ok (.lload_n 0, 1) := by decide +kernel
theorem d_Form_nearest_9 : decode b_Form_nearest 9 = .ok (.lload_n 0, 1) := by decide +kernel
theorem d_Form_nearest_10 : decode b_Form_nearest 10 = .ok (.lconst 1, 1) := by decide +kernel
theorem d_Form_nearest_11 : decode b_Form_nearest 11 = .ok (.land, 1) := by decide +kernel
theorem d_Form_nearest_12 : decode b_Form_nearest 12 = .ok (.ladd, 1) := by decide +kernel
theorem d_Form_nearest_13 : decode b_Form_nearest 13 = .ok (.lreturn, 1) := by decide +kernel
theorem d_Form_nearest_14 : decode b_Form_nearest 14 = .ok (.lload_n 2, 1) := by decide +kernel
theorem d_Form_nearest_15 : decode b_Form_nearest 15 = .ok (.lconst 0, 1) := by decide +kernel
theorem d_Form_nearest_16 : decode b_Form_nearest 16 = .ok (.lcmp, 1) := by decide +kernel
theorem d_Form_nearest_17 : decode b_Form_nearest 17 = .ok (.ifCond .ge 9, 3) := by decide +kernel
theorem d_Form_nearest_20 : decode b_Form_nearest 20 = .ok (.lload_n 0, 1) := by decide +kernel
theorem d_Form_nearest_21 : decode b_Form_nearest 21 = .ok (.lconst 1, 1) := by decide +kernel
theorem d_Form_nearest_22 : decode b_Form_nearest 22 = .ok (.ladd, 1) := by decide +kernel
theorem d_Form_nearest_23 : decode b_Form_nearest 23 = .ok (.goto 4, 3) := by decide +kernel
theorem d_Form_nearest_26 : decode b_Form_nearest 26 = .ok (.lload_n 0, 1) := by decide +kernel
theorem d_Form_nearest_27 : decode b_Form_nearest 27 = .ok (.lreturn, 1) := by decide +kernel
abbrev b_Form_rounded : ByteArray := prog_5_method_12_code
def y_Form_rounded : MethodName := ⟨"BitArithmetic$Form", "rounded", "(JJI)J"⟩
theorem d_Form_rounded_0 : decode b_Form_rounded 0 = .ok (.lload_n 3, 1) := by decide +kernel
theorem d_Form_rounded_1 : decode b_Form_rounded 1 = .ok (.invokestatic 63, 3) := by decide +kernel
theorem d_Form_rounded_4 : decode b_Form_rounded 4 = .ok (.istore 6, 2) := by decide +kernel
theorem d_Form_rounded_6 : decode b_Form_rounded 6 = .ok (.lload_n 3, 1) := by decide +kernel
theorem d_Form_rounded_7 : decode b_Form_rounded 7 = .ok (.iload 6, 2) := by decide +kernel
theorem d_Form_rounded_9 : decode b_Form_rounded 9 = .ok (.lshl, 1) := by decide +kernel
theorem d_Form_rounded_10 : decode b_Form_rounded 10 = .ok (.lstore 7, 2) := by decide +kernel
theorem d_Form_rounded_12 : decode b_Form_rounded 12 = .ok (.iload 5, 2) := by decide +kernel
theorem d_Form_rounded_14 : decode b_Form_rounded 14 = .ok (.iload 6, 2) := by decide +kernel
theorem d_Form_rounded_16 : decode b_Form_rounded 16 = .ok (.isub, 1) := by decide +kernel
theorem d_Form_rounded_17 : decode b_Form_rounded 17 = .ok (.bipush 63, 2) := by decide +kernel
theorem d_Form_rounded_19 : decode b_Form_rounded 19 = .ok (.iadd, 1) := by decide +kernel
theorem d_Form_rounded_20 : decode b_Form_rounded 20 = .ok (.aload_n 0, 1) := by decide +kernel
theorem d_Form_rounded_21 : decode b_Form_rounded 21 = .ok (.getfield 36, 3) := by decide +kernel
theorem d_Form_rounded_24 : decode b_Form_rounded 24 = .ok (.iadd, 1) := by decide +kernel
theorem d_Form_rounded_25 : decode b_Form_rounded 25 = .ok (.istore 9, 2) := by decide +kernel
theorem d_Form_rounded_27 : decode b_Form_rounded 27 = .ok (.iload 9, 2) := by decide +kernel
theorem d_Form_rounded_29 : decode b_Form_rounded 29 = .ok (.iconst 2, 1) := by decide +kernel
theorem d_Form_rounded_30 : decode b_Form_rounded 30 = .ok (.aload_n 0, 1) := by decide +kernel
theorem d_Form_rounded_31 : decode b_Form_rounded 31 = .ok (.getfield 36, 3) := by decide +kernel
theorem d_Form_rounded_34 : decode b_Form_rounded 34 = .ok (.imul, 1) := by decide +kernel
theorem d_Form_rounded_35 : decode b_Form_rounded 35 = .ok (.if_icmp .le 10, 3) := by decide +kernel
theorem d_Form_rounded_38 : decode b_Form_rounded 38 = .ok (.lload_n 1, 1) := by decide +kernel
theorem d_Form_rounded_39 : decode b_Form_rounded 39 = .ok (.aload_n 0, 1) := by decide +kernel
theorem d_Form_rounded_40 : decode b_Form_rounded 40 = .ok (.getfield 43, 3) := by decide +kernel
theorem d_Form_rounded_43 : decode b_Form_rounded 43 = .ok (.lor, 1) := by decide +kernel
theorem d_Form_rounded_44 : decode b_Form_rounded 44 = .ok (.lreturn, 1) := by decide +kernel
theorem d_Form_rounded_45 : decode b_Form_rounded 45 = .ok (.iconst 1, 1) := by decide +kernel
theorem d_Form_rounded_46 : decode b_Form_rounded 46 = .ok (.iload 9, 2) := by decide +kernel
theorem d_Form_rounded_48 : decode b_Form_rounded 48 = .ok (.isub, 1) := by decide +kernel
theorem d_Form_rounded_49 : decode b_Form_rounded 49 = .ok (.iconst 0, 1) := by decide +kernel
theorem d_Form_rounded_50 : decode b_Form_rounded 50 = .ok (.invokestatic 57, 3) := by decide +kernel
theorem d_Form_rounded_53 : decode b_Form_rounded 53 = .ok (.istore 10, 2) := by decide +kernel
theorem d_Form_rounded_55 : decode b_Form_rounded 55 = .ok (.bipush 63, 2) := by decide +kernel
theorem d_Form_rounded_57 : decode b_Form_rounded 57 = .ok (.aload_n 0, 1) := by decide +kernel
theorem d_Form_rounded_58 : decode b_Form_rounded 58 = .ok (.getfield 33, 3) := by decide +kernel
theorem d_Form_rounded_61 : decode b_Form_rounded 61 = .ok (.isub, 1) := by decide +kernel
theorem d_Form_rounded_62 : decode b_Form_rounded 62 = .ok (.iload 10, 2) := by decide +kernel
theorem d_Form_rounded_64 : decode b_Form_rounded 64 = .ok (.iadd, 1) := by decide +kernel
theorem d_Form_rounded_65 : decode b_Form_rounded 65 = .ok (.istore 11, 2) := by decide +kernel
theorem d_Form_rounded_67 : decode b_Form_rounded 67 = .ok (.iload 11, 2) := by decide +kernel
theorem d_Form_rounded_69 : decode b_Form_rounded 69 = .ok (.bipush 64, 2) := by decide +kernel
theorem d_Form_rounded_71 : decode b_Form_rounded 71 = .ok (.if_icmp .le 5, 3) := by decide +kernel
theorem d_Form_rounded_74 : decode b_Form_rounded 74 = .ok (.lload_n 1, 1) := by decide +kernel
theorem d_Form_rounded_75 : decode b_Form_rounded 75 = .ok (.lreturn, 1) := by decide +kernel
theorem d_Form_rounded_76 : decode b_Form_rounded 76 = .ok (.iload 11, 2) := by decide +kernel
theorem d_Form_rounded_78 : decode b_Form_rounded 78 = .ok (.bipush 64, 2) := by decide +kernel
theorem d_Form_rounded_80 : decode b_Form_rounded 80 = .ok (.if_icmp .ne 7, 3) := by decide +kernel
theorem d_Form_rounded_83 : decode b_Form_rounded 83 = .ok (.lconst 0, 1) := by decide +kernel
theorem d_Form_rounded_84 : decode b_Form_rounded 84 = .ok (.goto 8, 3) := by decide +kernel
theorem d_Form_rounded_87 : decode b_Form_rounded 87 = .ok (.lload 7, 2) := by decide +kernel
theorem d_Form_rounded_89 : decode b_Form_rounded 89 = .ok (.iload 11, 2) := by decide +kernel
theorem d_Form_rounded_91 : decode b_Form_rounded 91 = .ok (.lushr, 1) := by decide +kernel
theorem d_Form_rounded_92 : decode b_Form_rounded 92 = .ok (.lstore 12, 2) := by decide +kernel
theorem d_Form_rounded_94 : decode b_Form_rounded 94 = .ok (.iload 9, 2) := by decide +kernel
theorem d_Form_rounded_96 : decode b_Form_rounded 96 = .ok (.iconst 1, 1) := by decide +kernel
theorem d_Form_rounded_97 : decode b_Form_rounded 97 = .ok (.invokestatic 57, 3) := by decide +kernel
theorem d_Form_rounded_100 : decode b_Form_rounded 100 = .ok (.iconst 1, 1) := by decide +kernel
theorem d_Form_rounded_101 : decode b_Form_rounded 101 = .ok (.isub, 1) := by decide +kernel
theorem d_Form_rounded_102 : decode b_Form_rounded 102 = .ok (.i2l, 1) := by decide +kernel
theorem d_Form_rounded_103 : decode b_Form_rounded 103 = .ok (.aload_n 0, 1) := by decide +kernel
theorem d_Form_rounded_104 : decode b_Form_rounded 104 = .ok (.getfield 33, 3) := by decide +kernel
theorem d_Form_rounded_107 : decode b_Form_rounded 107 = .ok (.lshl, 1) := by decide +kernel
theorem d_Form_rounded_108 : decode b_Form_rounded 108 = .ok (.lstore 14, 2) := by decide +kernel
theorem d_Form_rounded_110 : decode b_Form_rounded 110 = .ok (.lload_n 1, 1) := by decide +kernel
theorem d_Form_rounded_111 : decode b_Form_rounded 111 = .ok (.lload 14, 2) := by decide +kernel
theorem d_Form_rounded_113 : decode b_Form_rounded 113 = .ok (.lload 12, 2) := by decide +kernel
theorem d_Form_rounded_115 : decode b_Form_rounded 115 = .ok (.lload 7, 2) := by decide +kernel
theorem d_Form_rounded_117 : decode b_Form_rounded 117 = .ok (.bipush 64, 2) := by decide +kernel
theorem d_Form_rounded_119 : decode b_Form_rounded 119 = .ok (.iload 11, 2) := by decide +kernel
theorem d_Form_rounded_121 : decode b_Form_rounded 121 = .ok (.isub, 1) := by decide +kernel
theorem d_Form_rounded_122 : decode b_Form_rounded 122 = .ok (.lshl, 1) := by decide +kernel
theorem d_Form_rounded_123 : decode b_Form_rounded 123 = .ok (.invokestatic 68, 3) := by decide +kernel
theorem d_Form_rounded_126 : decode b_Form_rounded 126 = .ok (.ladd, 1) := by decide +kernel
theorem d_Form_rounded_127 : decode b_Form_rounded 127 = .ok (.lor, 1) := by decide +kernel
theorem d_Form_rounded_128 : decode b_Form_rounded 128 = .ok (.lreturn, 1) := by decide +kernel
abbrev b_Operations_exists : ByteArray := prog_7_method_2_code
def y_Operations_exists : MethodName := ⟨"BitArithmetic$Operations", "exists", "(I)Z"⟩
theorem d_Operations_exists_0 : decode b_Operations_exists 0 = .ok (.iload_n 0, 1) := by decide +kernel
theorem d_Operations_exists_1 : decode b_Operations_exists 1 = .ok (.bipush 69, 2) := by decide +kernel
theorem d_Operations_exists_3 : decode b_Operations_exists 3 = .ok (.if_icmp .lt 14, 3) := by decide +kernel
theorem d_Operations_exists_6 : decode b_Operations_exists 6 = .ok (.iload_n 0, 1) := by decide +kernel
theorem d_Operations_exists_7 : decode b_Operations_exists 7 = .ok (.sipush 191, 3) := by decide +kernel
theorem d_Operations_exists_10 : decode b_Operations_exists 10 = .ok (.if_icmp .gt 7, 3) := by decide +kernel
theorem d_Operations_exists_13 : decode b_Operations_exists 13 = .ok (.iconst 1, 1) := by decide +kernel
theorem d_Operations_exists_14 : decode b_Operations_exists 14 = .ok (.goto 4, 3) := by decide +kernel
theorem d_Operations_exists_17 : decode b_Operations_exists 17 = .ok (.iconst 0, 1) := by decide +kernel
theorem d_Operations_exists_18 : decode b_Operations_exists 18 = .ok (.ireturn, 1) := by decide +kernel
abbrev b_Operations_isTwin : ByteArray := prog_7_method_3_code
def y_Operations_isTwin : MethodName := ⟨"BitArithmetic$Operations", "isTwin", "(I)Z"⟩
theorem d_Operations_isTwin_0 : decode b_Operations_isTwin 0 = .ok (.iload_n 0, 1) := by decide +kernel
theorem d_Operations_isTwin_1 : decode b_Operations_isTwin 1 = .ok (.bipush 80, 2) := by decide +kernel
theorem d_Operations_isTwin_3 : decode b_Operations_isTwin 3 = .ok (.if_icmp .lt 9, 3) := by decide +kernel
theorem d_Operations_isTwin_6 : decode b_Operations_isTwin 6 = .ok (.iload_n 0, 1) := by decide +kernel
theorem d_Operations_isTwin_7 : decode b_Operations_isTwin 7 = .ok (.bipush 90, 2) := by decide +kernel
theorem d_Operations_isTwin_9 : decode b_Operations_isTwin 9 = .ok (.if_icmp .le 42, 3) := by decide +kernel
theorem d_Operations_isTwin_12 : decode b_Operations_isTwin 12 = .ok (.iload_n 0, 1) := by decide +kernel
theorem d_Operations_isTwin_13 : decode b_Operations_isTwin 13 = .ok (.bipush 97, 2) := by decide +kernel
theorem d_Operations_isTwin_15 : decode b_Operations_isTwin 15 = .ok (.if_icmp .lt 9, 3) := by decide +kernel
theorem d_Operations_isTwin_18 : decode b_Operations_isTwin 18 = .ok (.iload_n 0, 1) := by decide +kernel
theorem d_Operations_isTwin_19 : decode b_Operations_isTwin 19 = .ok (.bipush 102, 2) := by decide +kernel
theorem d_Operations_isTwin_21 : decode b_Operations_isTwin 21 = .ok (.if_icmp .le 30, 3) := by decide +kernel
theorem d_Operations_isTwin_24 : decode b_Operations_isTwin 24 = .ok (.iload_n 0, 1) := by decide +kernel
theorem d_Operations_isTwin_25 : decode b_Operations_isTwin 25 = .ok (.bipush 121, 2) := by decide +kernel
theorem d_Operations_isTwin_27 : decode b_Operations_isTwin 27 = .ok (.if_icmp .lt 10, 3) := by decide +kernel
theorem d_Operations_isTwin_30 : decode b_Operations_isTwin 30 = .ok (.iload_n 0, 1) := by decide +kernel
theorem d_Operations_isTwin_31 : decode b_Operations_isTwin 31 = .ok (.sipush 138, 3) := by decide +kernel
theorem d_Operations_isTwin_34 : decode b_Operations_isTwin 34 = .ok (.if_icmp .le 17, 3) := by decide +kernel
theorem d_Operations_isTwin_37 : decode b_Operations_isTwin 37 = .ok (.iload_n 0, 1) := by decide +kernel
theorem d_Operations_isTwin_38 : decode b_Operations_isTwin 38 = .ok (.sipush 153, 3) := by decide +kernel
theorem d_Operations_isTwin_41 : decode b_Operations_isTwin 41 = .ok (.if_icmp .lt 14, 3) := by decide +kernel
theorem d_Operations_isTwin_44 : decode b_Operations_isTwin 44 = .ok (.iload_n 0, 1) := by decide +kernel
theorem d_Operations_isTwin_45 : decode b_Operations_isTwin 45 = .ok (.sipush 166, 3) := by decide +kernel
theorem d_Operations_isTwin_48 : decode b_Operations_isTwin 48 = .ok (.if_icmp .gt 7, 3) := by decide +kernel
theorem d_Operations_isTwin_51 : decode b_Operations_isTwin 51 = .ok (.iconst 1, 1) := by decide +kernel
theorem d_Operations_isTwin_52 : decode b_Operations_isTwin 52 = .ok (.goto 4, 3) := by decide +kernel
theorem d_Operations_isTwin_55 : decode b_Operations_isTwin 55 = .ok (.iconst 0, 1) := by decide +kernel
theorem d_Operations_isTwin_56 : decode b_Operations_isTwin 56 = .ok (.ireturn, 1) := by decide +kernel
abbrev b_Operations_of32 : ByteArray := prog_7_method_4_code
def y_Operations_of32 : MethodName := ⟨"BitArithmetic$Operations", "of32", "(I)I"⟩
theorem d_Operations_of32_0 : decode b_Operations_of32 0 = .ok (.iload_n 0, 1) := by decide +kernel
theorem d_Operations_of32_1 : decode b_Operations_of32 1 = .ok (.invokestatic 7, 3) := by decide +kernel
theorem d_Operations_of32_4 : decode b_Operations_of32 4 = .ok (.ifCond .ne 5, 3) := by decide +kernel
theorem d_Operations_of32_7 : decode b_Operations_of32 7 = .ok (.iload_n 0, 1) := by decide +kernel
theorem d_Operations_of32_8 : decode b_Operations_of32 8 = .ok (.ireturn, 1) := by decide +kernel
theorem d_Operations_of32_9 : decode b_Operations_of32 9 = .ok (.iload_n 0, 1) := by decide +kernel
theorem d_Operations_of32_10 : decode b_Operations_of32 10 = .ok (.bipush 90, 2) := by decide +kernel
theorem d_Operations_of32_12 : decode b_Operations_of32 12 = .ok (.if_icmp .gt 8, 3) := by decide +kernel
theorem d_Operations_of32_15 : decode b_Operations_of32 15 = .ok (.iload_n 0, 1) := by decide +kernel
theorem d_Operations_of32_16 : decode b_Operations_of32 16 = .ok (.bipush 11, 2) := by decide +kernel
theorem d_Operations_of32_18 : decode b_Operations_of32 18 = .ok (.isub, 1) := by decide +kernel
theorem d_Operations_of32_19 : decode b_Operations_of32 19 = .ok (.ireturn, 1) := by decide +kernel
theorem d_Operations_of32_20 : decode b_Operations_of32 20 = .ok (.iload_n 0, 1) := by decide +kernel
theorem d_Operations_of32_21 : decode b_Operations_of32 21 = .ok (.bipush 102, 2) := by decide +kernel
theorem d_Operations_of32_23 : decode b_Operations_of32 23 = .ok (.if_icmp .gt 8, 3) := by decide +kernel
theorem d_Operations_of32_26 : decode b_Operations_of32 26 = .ok (.iload_n 0, 1) := by decide +kernel
theorem d_Operations_of32_27 : decode b_Operations_of32 27 = .ok (.bipush 6, 2) := by decide +kernel
theorem d_Operations_of32_29 : decode b_Operations_of32 29 = .ok (.isub, 1) := by decide +kernel
theorem d_Operations_of32_30 : decode b_Operations_of32 30 = .ok (.ireturn, 1) := by decide +kernel
theorem d_Operations_of32_31 : decode b_Operations_of32 31 = .ok (.iload_n 0, 1) := by decide +kernel
theorem d_Operations_of32_32 : decode b_Operations_of32 32 = .ok (.sipush 138, 3) := by decide +kernel
theorem d_Operations_of32_35 : decode b_Operations_of32 35 = .ok (.if_icmp .gt 8, 3) := by decide +kernel
theorem d_Operations_of32_38 : decode b_Operations_of32 38 = .ok (.iload_n 0, 1) := by decide +kernel
theorem d_Operations_of32_39 : decode b_Operations_of32 39 = .ok (.bipush 18, 2) := by decide +kernel
theorem d_Operations_of32_41 : decode b_Operations_of32 41 = .ok (.isub, 1) := by decide +kernel
theorem d_Operations_of32_42 : decode b_Operations_of32 42 = .ok (.ireturn, 1) := by decide +kernel
theorem d_Operations_of32_43 : decode b_Operations_of32 43 = .ok (.iload_n 0, 1) := by decide +kernel
theorem d_Operations_of32_44 : decode b_Operations_of32 44 = .ok (.bipush 14, 2) := by decide +kernel
theorem d_Operations_of32_46 : decode b_Operations_of32 46 = .ok (.isub, 1) := by decide +kernel
theorem d_Operations_of32_47 : decode b_Operations_of32 47 = .ok (.ireturn, 1) := by decide +kernel
abbrev b_Wholes_test : ByteArray := prog_9_method_2_code
def y_Wholes_test : MethodName := ⟨"BitArithmetic$Wholes", "test", "(IJJ)Z"⟩
theorem d_Wholes_test_0 : decode b_Wholes_test 0 = .ok (.iload_n 0, 1) := by decide +kernel
theorem d_Wholes_test_1 : decode b_Wholes_test 1 = .ok (.tableswitch 181 69 78 #[55, 67, 79, 91, 103, 117, 129, 143, 155, 169], 55) := by decide +kernel
theorem d_Wholes_test_56 : decode b_Wholes_test 56 = .ok (.lload_n 1, 1) := by decide +kernel
theorem d_Wholes_test_57 : decode b_Wholes_test 57 = .ok (.lconst 0, 1) := by decide +kernel
theorem d_Wholes_test_58 : decode b_Wholes_test 58 = .ok (.lcmp, 1) := by decide +kernel
theorem d_Wholes_test_59 : decode b_Wholes_test 59 = .ok (.ifCond .ne 7, 3) := by decide +kernel
theorem d_Wholes_test_62 : decode b_Wholes_test 62 = .ok (.iconst 1, 1) := by decide +kernel
theorem d_Wholes_test_63 : decode b_Wholes_test 63 = .ok (.goto 4, 3) := by decide +kernel
theorem d_Wholes_test_66 : decode b_Wholes_test 66 = .ok (.iconst 0, 1) := by decide +kernel
theorem d_Wholes_test_67 : decode b_Wholes_test 67 = .ok (.ireturn, 1) := by decide +kernel
theorem d_Wholes_test_68 : decode b_Wholes_test 68 = .ok (.lload_n 1, 1) := by decide +kernel
theorem d_Wholes_test_69 : decode b_Wholes_test 69 = .ok (.lload_n 3, 1) := by decide +kernel
theorem d_Wholes_test_70 : decode b_Wholes_test 70 = .ok (.lcmp, 1) := by decide +kernel
theorem d_Wholes_test_71 : decode b_Wholes_test 71 = .ok (.ifCond .ne 7, 3) := by decide +kernel
theorem d_Wholes_test_74 : decode b_Wholes_test 74 = .ok (.iconst 1, 1) := by decide +kernel
theorem d_Wholes_test_75 : decode b_Wholes_test 75 = .ok (.goto 4, 3) := by decide +kernel
theorem d_Wholes_test_78 : decode b_Wholes_test 78 = .ok (.iconst 0, 1) := by decide +kernel
theorem d_Wholes_test_79 : decode b_Wholes_test 79 = .ok (.ireturn, 1) := by decide +kernel
theorem d_Wholes_test_80 : decode b_Wholes_test 80 = .ok (.lload_n 1, 1) := by decide +kernel
theorem d_Wholes_test_81 : decode b_Wholes_test 81 = .ok (.lload_n 3, 1) := by decide +kernel
theorem d_Wholes_test_82 : decode b_Wholes_test 82 = .ok (.lcmp, 1) := by decide +kernel
theorem d_Wholes_test_83 : decode b_Wholes_test 83 = .ok (.ifCond .eq 7, 3) := by decide +kernel
theorem d_Wholes_test_86 : decode b_Wholes_test 86 = .ok (.iconst 1, 1) := by decide +kernel
theorem d_Wholes_test_87 : decode b_Wholes_test 87 = .ok (.goto 4, 3) := by decide +kernel
theorem d_Wholes_test_90 : decode b_Wholes_test 90 = .ok (.iconst 0, 1) := by decide +kernel
theorem d_Wholes_test_91 : decode b_Wholes_test 91 = .ok (.ireturn, 1) := by decide +kernel
theorem d_Wholes_test_92 : decode b_Wholes_test 92 = .ok (.lload_n 1, 1) := by decide +kernel
theorem d_Wholes_test_93 : decode b_Wholes_test 93 = .ok (.lload_n 3, 1) := by decide +kernel
theorem d_Wholes_test_94 : decode b_Wholes_test 94 = .ok (.lcmp, 1) := by decide +kernel
theorem d_Wholes_test_95 : decode b_Wholes_test 95 = .ok (.ifCond .ge 7, 3) := by decide +kernel
theorem d_Wholes_test_98 : decode b_Wholes_test 98 = .ok (.iconst 1, 1) := by decide +kernel
theorem d_Wholes_test_99 : decode b_Wholes_test 99 = .ok (.goto 4, 3) := by decide +kernel
theorem d_Wholes_test_102 : decode b_Wholes_test 102 = .ok (.iconst 0, 1) := by decide +kernel
theorem d_Wholes_test_103 : decode b_Wholes_test 103 = .ok (.ireturn, 1) := by decide +kernel
theorem d_Wholes_test_104 : decode b_Wholes_test 104 = .ok (.lload_n 1, 1) := by decide +kernel
theorem d_Wholes_test_105 : decode b_Wholes_test 105 = .ok (.lload_n 3, 1) := by decide +kernel
theorem d_Wholes_test_106 : decode b_Wholes_test 106 = .ok (.invokestatic 7, 3) := by decide +kernel
theorem d_Wholes_test_109 : decode b_Wholes_test 109 = .ok (.ifCond .ge 7, 3) := by decide +kernel
theorem d_Wholes_test_112 : decode b_Wholes_test 112 = .ok (.iconst 1, 1) := by decide +kernel
theorem d_Wholes_test_113 : decode b_Wholes_test 113 = .ok (.goto 4, 3) := by decide +kernel
theorem d_Wholes_test_116 : decode b_Wholes_test 116 = .ok (.iconst 0, 1) := by decide +kernel
theorem d_Wholes_test_117 : decode b_Wholes_test 117 = .ok (.ireturn, 1) := by decide +kernel
theorem d_Wholes_test_118 : decode b_Wholes_test 118 = .ok (.lload_n 1, 1) := by decide +kernel
theorem d_Wholes_test_119 : decode b_Wholes_test 119 = .ok (.lload_n 3, 1) := by decide +kernel
theorem d_Wholes_test_120 : decode b_Wholes_test 120 = .ok (.lcmp, 1) := by decide +kernel
theorem d_Wholes_test_121 : decode b_Wholes_test 121 = .ok (.ifCond .le 7, 3) := by decide +kernel
theorem d_Wholes_test_124 : decode b_Wholes_test 124 = .ok (.iconst 1, 1) := by decide +kernel
theorem d_Wholes_test_125 : decode b_Wholes_test 125 = .ok (.goto 4, 3) := by decide +kernel
theorem d_Wholes_test_128 : decode b_Wholes_test 128 = .ok (.iconst 0, 1) := by decide +kernel
theorem d_Wholes_test_129 : decode b_Wholes_test 129 = .ok (.ireturn, 1) := by decide +kernel
theorem d_Wholes_test_130 : decode b_Wholes_test 130 = .ok (.lload_n 1, 1) := by decide +kernel
theorem d_Wholes_test_131 : decode b_Wholes_test 131 = .ok (.lload_n 3, 1) := by decide +kernel
theorem d_Wholes_test_132 : decode b_Wholes_test 132 = .ok (.invokestatic 7, 3) := by decide +kernel
theorem d_Wholes_test_135 : decode b_Wholes_test 135 = .ok (.ifCond .le 7, 3) := by decide +kernel
theorem d_Wholes_test_138 : decode b_Wholes_test 138 = .ok (.iconst 1, 1) := by decide +kernel
theorem d_Wholes_test_139 : decode b_Wholes_test 139 = .ok (.goto 4, 3) := by decide +kernel
theorem d_Wholes_test_142 : decode b_Wholes_test 142 = .ok (.iconst 0, 1) := by decide +kernel
theorem d_Wholes_test_143 : decode b_Wholes_test 143 = .ok (.ireturn, 1) := by decide +kernel
theorem d_Wholes_test_144 : decode b_Wholes_test 144 = .ok (.lload_n 1, 1) := by decide +kernel
theorem d_Wholes_test_145 : decode b_Wholes_test 145 = .ok (.lload_n 3, 1) := by decide +kernel
theorem d_Wholes_test_146 : decode b_Wholes_test 146 = .ok (.lcmp, 1) := by decide +kernel
theorem d_Wholes_test_147 : decode b_Wholes_test 147 = .ok (.ifCond .gt 7, 3) := by decide +kernel
theorem d_Wholes_test_150 : decode b_Wholes_test 150 = .ok (.iconst 1, 1) := by decide +kernel
theorem d_Wholes_test_151 : decode b_Wholes_test 151 = .ok (.goto 4, 3) := by decide +kernel
theorem d_Wholes_test_154 : decode b_Wholes_test 154 = .ok (.iconst 0, 1) := by decide +kernel
theorem d_Wholes_test_155 : decode b_Wholes_test 155 = .ok (.ireturn, 1) := by decide +kernel
theorem d_Wholes_test_156 : decode b_Wholes_test 156 = .ok (.lload_n 1, 1) := by decide +kernel
theorem d_Wholes_test_157 : decode b_Wholes_test 157 = .ok (.lload_n 3, 1) := by decide +kernel
theorem d_Wholes_test_158 : decode b_Wholes_test 158 = .ok (.invokestatic 7, 3) := by decide +kernel
theorem d_Wholes_test_161 : decode b_Wholes_test 161 = .ok (.ifCond .gt 7, 3) := by decide +kernel
theorem d_Wholes_test_164 : decode b_Wholes_test 164 = .ok (.iconst 1, 1) := by decide +kernel
theorem d_Wholes_test_165 : decode b_Wholes_test 165 = .ok (.goto 4, 3) := by decide +kernel
theorem d_Wholes_test_168 : decode b_Wholes_test 168 = .ok (.iconst 0, 1) := by decide +kernel
theorem d_Wholes_test_169 : decode b_Wholes_test 169 = .ok (.ireturn, 1) := by decide +kernel
theorem d_Wholes_test_170 : decode b_Wholes_test 170 = .ok (.lload_n 1, 1) := by decide +kernel
theorem d_Wholes_test_171 : decode b_Wholes_test 171 = .ok (.lload_n 3, 1) := by decide +kernel
theorem d_Wholes_test_172 : decode b_Wholes_test 172 = .ok (.lcmp, 1) := by decide +kernel
theorem d_Wholes_test_173 : decode b_Wholes_test 173 = .ok (.ifCond .lt 7, 3) := by decide +kernel
theorem d_Wholes_test_176 : decode b_Wholes_test 176 = .ok (.iconst 1, 1) := by decide +kernel
theorem d_Wholes_test_177 : decode b_Wholes_test 177 = .ok (.goto 4, 3) := by decide +kernel
theorem d_Wholes_test_180 : decode b_Wholes_test 180 = .ok (.iconst 0, 1) := by decide +kernel
theorem d_Wholes_test_181 : decode b_Wholes_test 181 = .ok (.ireturn, 1) := by decide +kernel
theorem d_Wholes_test_182 : decode b_Wholes_test 182 = .ok (.lload_n 1, 1) := by decide +kernel
theorem d_Wholes_test_183 : decode b_Wholes_test 183 = .ok (.lload_n 3, 1) := by decide +kernel
theorem d_Wholes_test_184 : decode b_Wholes_test 184 = .ok (.invokestatic 7, 3) := by decide +kernel
theorem d_Wholes_test_187 : decode b_Wholes_test 187 = .ok (.ifCond .lt 7, 3) := by decide +kernel
theorem d_Wholes_test_190 : decode b_Wholes_test 190 = .ok (.iconst 1, 1) := by decide +kernel
theorem d_Wholes_test_191 : decode b_Wholes_test 191 = .ok (.goto 4, 3) := by decide +kernel
theorem d_Wholes_test_194 : decode b_Wholes_test 194 = .ok (.iconst 0, 1) := by decide +kernel
theorem d_Wholes_test_195 : decode b_Wholes_test 195 = .ok (.ireturn, 1) := by decide +kernel
abbrev b_Wholes_counted : ByteArray := prog_9_method_4_code
def y_Wholes_counted : MethodName := ⟨"BitArithmetic$Wholes", "counted", "(IIJ)J"⟩
theorem d_Wholes_counted_0 : decode b_Wholes_counted 0 = .ok (.iload_n 0, 1) := by decide +kernel
theorem d_Wholes_counted_1 : decode b_Wholes_counted 1 = .ok (.lookupswitch 55 #[(103, 27), (104, 38)], 27) := by decide +kernel
theorem d_Wholes_counted_28 : decode b_Wholes_counted 28 = .ok (.lload_n 2, 1) := by decide +kernel
theorem d_Wholes_counted_29 : decode b_Wholes_counted 29 = .ok (.invokestatic 37, 3) := by decide +kernel
theorem d_Wholes_counted_32 : decode b_Wholes_counted 32 = .ok (.bipush 64, 2) := by decide +kernel
theorem d_Wholes_counted_34 : decode b_Wholes_counted 34 = .ok (.iload_n 1, 1) := by decide +kernel
theorem d_Wholes_counted_35 : decode b_Wholes_counted 35 = .ok (.isub, 1) := by decide +kernel
theorem d_Wholes_counted_36 : decode b_Wholes_counted 36 = .ok (.isub, 1) := by decide +kernel
theorem d_Wholes_counted_37 : decode b_Wholes_counted 37 = .ok (.i2l, 1) := by decide +kernel
theorem d_Wholes_counted_38 : decode b_Wholes_counted 38 = .ok (.lreturn, 1) := by decide +kernel
theorem d_Wholes_counted_39 : decode b_Wholes_counted 39 = .ok (.lload_n 2, 1) := by decide +kernel
theorem d_Wholes_counted_40 : decode b_Wholes_counted 40 = .ok (.lconst 0, 1) := by decide +kernel
theorem d_Wholes_counted_41 : decode b_Wholes_counted 41 = .ok (.lcmp, 1) := by decide +kernel
theorem d_Wholes_counted_42 : decode b_Wholes_counted 42 = .ok (.ifCond .ne 8, 3) := by decide +kernel
theorem d_Wholes_counted_45 : decode b_Wholes_counted 45 = .ok (.iload_n 1, 1) := by decide +kernel
theorem d_Wholes_counted_46 : decode b_Wholes_counted 46 = .ok (.i2l, 1) := by decide +kernel
theorem d_Wholes_counted_47 : decode b_Wholes_counted 47 = .ok (.goto 8, 3) := by decide +kernel
theorem d_Wholes_counted_50 : decode b_Wholes_counted 50 = .ok (.lload_n 2, 1) := by decide +kernel
theorem d_Wholes_counted_51 : decode b_Wholes_counted 51 = .ok (.invokestatic 41, 3) := by decide +kernel
theorem d_Wholes_counted_54 : decode b_Wholes_counted 54 = .ok (.i2l, 1) := by decide +kernel
theorem d_Wholes_counted_55 : decode b_Wholes_counted 55 = .ok (.lreturn, 1) := by decide +kernel
theorem d_Wholes_counted_56 : decode b_Wholes_counted 56 = .ok (.lload_n 2, 1) := by decide +kernel
theorem d_Wholes_counted_57 : decode b_Wholes_counted 57 = .ok (.invokestatic 44, 3) := by decide +kernel
theorem d_Wholes_counted_60 : decode b_Wholes_counted 60 = .ok (.i2l, 1) := by decide +kernel
theorem d_Wholes_counted_61 : decode b_Wholes_counted 61 = .ok (.lreturn, 1) := by decide +kernel
abbrev b_Wholes_combined : ByteArray := prog_9_method_5_code
def y_Wholes_combined : MethodName := ⟨"BitArithmetic$Wholes", "combined", "(IJJ)J"⟩
theorem d_Wholes_combined_0 : decode b_Wholes_combined 0 = .ok (.iload_n 0, 1) := by decide +kernel
theorem d_Wholes_combined_1 : decode b_Wholes_combined 1 = .ok (.tableswitch 71 106 114 #[51, 55, 59, 71, 71, 71, 71, 63, 67], 51) := by decide +kernel
theorem d_Wholes_combined_52 : decode b_Wholes_combined 52 = .ok (.lload_n 1, 1) := by decide +kernel
theorem d_Wholes_combined_53 : decode b_Wholes_combined 53 = .ok (.lload_n 3, 1) := by decide +kernel
theorem d_Wholes_combined_54 : decode b_Wholes_combined 54 = .ok (.ladd, 1) := by decide +kernel
theorem d_Wholes_combined_55 : decode b_Wholes_combined 55 = .ok (.lreturn, 1) := by decide +kernel
theorem d_Wholes_combined_56 : decode b_Wholes_combined 56 = .ok (.lload_n 1, 1) := by decide +kernel
theorem d_Wholes_combined_57 : decode b_Wholes_combined 57 = .ok (.lload_n 3, 1) := by decide +kernel
theorem d_Wholes_combined_58 : decode b_Wholes_combined 58 = .ok (.lsub, 1) := by decide +kernel
theorem d_Wholes_combined_59 : decode b_Wholes_combined 59 = .ok (.lreturn, 1) := by decide +kernel
theorem d_Wholes_combined_60 : decode b_Wholes_combined 60 = .ok (.lload_n 1, 1) := by decide +kernel
theorem d_Wholes_combined_61 : decode b_Wholes_combined 61 = .ok (.lload_n 3, 1) := by decide +kernel
theorem d_Wholes_combined_62 : decode b_Wholes_combined 62 = .ok (.lmul, 1) := by decide +kernel
theorem d_Wholes_combined_63 : decode b_Wholes_combined 63 = .ok (.lreturn, 1) := by decide +kernel
theorem d_Wholes_combined_64 : decode b_Wholes_combined 64 = .ok (.lload_n 1, 1) := by decide +kernel
theorem d_Wholes_combined_65 : decode b_Wholes_combined 65 = .ok (.lload_n 3, 1) := by decide +kernel
theorem d_Wholes_combined_66 : decode b_Wholes_combined 66 = .ok (.land, 1) := by decide +kernel
theorem d_Wholes_combined_67 : decode b_Wholes_combined 67 = .ok (.lreturn, 1) := by decide +kernel
theorem d_Wholes_combined_68 : decode b_Wholes_combined 68 = .ok (.lload_n 1, 1) := by decide +kernel
theorem d_Wholes_combined_69 : decode b_Wholes_combined 69 = .ok (.lload_n 3, 1) := by decide +kernel
theorem d_Wholes_combined_70 : decode b_Wholes_combined 70 = .ok (.lor, 1) := by decide +kernel
theorem d_Wholes_combined_71 : decode b_Wholes_combined 71 = .ok (.lreturn, 1) := by decide +kernel
theorem d_Wholes_combined_72 : decode b_Wholes_combined 72 = .ok (.lload_n 1, 1) := by decide +kernel
theorem d_Wholes_combined_73 : decode b_Wholes_combined 73 = .ok (.lload_n 3, 1) := by decide +kernel
theorem d_Wholes_combined_74 : decode b_Wholes_combined 74 = .ok (.lxor, 1) := by decide +kernel
theorem d_Wholes_combined_75 : decode b_Wholes_combined 75 = .ok (.lreturn, 1) := by decide +kernel
abbrev b_Wholes_unsignedQuotient : ByteArray := prog_9_method_7_code
def y_Wholes_unsignedQuotient : MethodName := ⟨"BitArithmetic$Wholes", "unsignedQuotient", "(JJ)J"⟩
theorem d_Wholes_unsignedQuotient_0 : decode b_Wholes_unsignedQuotient 0 = .ok (.lload_n 2, 1) := by decide +kernel
theorem d_Wholes_unsignedQuotient_1 : decode b_Wholes_unsignedQuotient 1 = .ok (.lconst 0, 1) := by decide +kernel
theorem d_Wholes_unsignedQuotient_2 : decode b_Wholes_unsignedQuotient 2 = .ok (.lcmp, 1) := by decide +kernel
theorem d_Wholes_unsignedQuotient_3 : decode b_Wholes_unsignedQuotient 3 = .ok (.ifCond .ge 17, 3) := by decide +kernel
theorem d_Wholes_unsignedQuotient_6 : decode b_Wholes_unsignedQuotient 6 = .ok (.lload_n 0, 1) := by decide +kernel
theorem d_Wholes_unsignedQuotient_7 : decode b_Wholes_unsignedQuotient 7 = .ok (.lload_n 2, 1) := by decide +kernel
theorem d_Wholes_unsignedQuotient_8 : decode b_Wholes_unsignedQuotient 8 = .ok (.invokestatic 7, 3) := by decide +kernel
theorem d_Wholes_unsignedQuotient_11 : decode b_Wholes_unsignedQuotient 11 = .ok (.ifCond .ge 7, 3) := by decide +kernel
theorem d_Wholes_unsignedQuotient_14 : decode b_Wholes_unsignedQuotient 14 = .ok (.lconst 0, 1) := by decide +kernel
theorem d_Wholes_unsignedQuotient_15 : decode b_Wholes_unsignedQuotient 15 = .ok (.goto 4, 3) := by decide +kernel
theorem d_Wholes_unsignedQuotient_18 : decode b_Wholes_unsignedQuotient 18 = .ok (.lconst 1, 1) := by decide +kernel
theorem d_Wholes_unsignedQuotient_19 : decode b_Wholes_unsignedQuotient 19 = .ok (.lreturn, 1) := by decide +kernel
theorem d_Wholes_unsignedQuotient_20 : decode b_Wholes_unsignedQuotient 20 = .ok (.lload_n 0, 1) := by decide +kernel
theorem d_Wholes_unsignedQuotient_21 : decode b_Wholes_unsignedQuotient 21 = .ok (.iconst 1, 1) := by decide +kernel
theorem d_Wholes_unsignedQuotient_22 : decode b_Wholes_unsignedQuotient 22 = .ok (.lushr, 1) := by decide +kernel
theorem d_Wholes_unsignedQuotient_23 : decode b_Wholes_unsignedQuotient 23 = .ok (.lload_n 2, 1) := by decide +kernel
theorem d_Wholes_unsignedQuotient_24 : decode b_Wholes_unsignedQuotient 24 = .ok (.ldiv, 1) := by decide +kernel
theorem d_Wholes_unsignedQuotient_25 : decode b_Wholes_unsignedQuotient 25 = .ok (.iconst 1, 1) := by decide +kernel
theorem d_Wholes_unsignedQuotient_26 : decode b_Wholes_unsignedQuotient 26 = .ok (.lshl, 1) := by decide +kernel
theorem d_Wholes_unsignedQuotient_27 : decode b_Wholes_unsignedQuotient 27 = .ok (.lstore 4, 2) := by decide +kernel
theorem d_Wholes_unsignedQuotient_29 : decode b_Wholes_unsignedQuotient 29 = .ok (.lload_n 0, 1) := by decide +kernel
theorem d_Wholes_unsignedQuotient_30 : decode b_Wholes_unsignedQuotient 30 = .ok (.lload 4, 2) := by decide +kernel
theorem d_Wholes_unsignedQuotient_32 : decode b_Wholes_unsignedQuotient 32 = .ok (.lload_n 2, 1) := by decide +kernel
theorem d_Wholes_unsignedQuotient_33 : decode b_Wholes_unsignedQuotient 33 = .ok (.lmul, 1) := by decide +kernel
theorem d_Wholes_unsignedQuotient_34 : decode b_Wholes_unsignedQuotient 34 = .ok (.lsub, 1) := by decide +kernel
theorem d_Wholes_unsignedQuotient_35 : decode b_Wholes_unsignedQuotient 35 = .ok (.lstore 6, 2) := by decide +kernel
theorem d_Wholes_unsignedQuotient_37 : decode b_Wholes_unsignedQuotient 37 = .ok (.lload 6, 2) := by decide +kernel
theorem d_Wholes_unsignedQuotient_39 : decode b_Wholes_unsignedQuotient 39 = .ok (.lload_n 2, 1) := by decide +kernel
theorem d_Wholes_unsignedQuotient_40 : decode b_Wholes_unsignedQuotient 40 = .ok (.invokestatic 7, 3) := by decide +kernel
theorem d_Wholes_unsignedQuotient_43 : decode b_Wholes_unsignedQuotient 43 = .ok (.ifCond .ge 8, 3) := by decide +kernel
theorem d_Wholes_unsignedQuotient_46 : decode b_Wholes_unsignedQuotient 46 = .ok (.lload 4, 2) := by decide +kernel
theorem d_Wholes_unsignedQuotient_48 : decode b_Wholes_unsignedQuotient 48 = .ok (.goto 7, 3) := by decide +kernel
theorem d_Wholes_unsignedQuotient_51 : decode b_Wholes_unsignedQuotient 51 = .ok (.lload 4, 2) := by decide +kernel
theorem d_Wholes_unsignedQuotient_53 : decode b_Wholes_unsignedQuotient 53 = .ok (.lconst 1, 1) := by decide +kernel
theorem d_Wholes_unsignedQuotient_54 : decode b_Wholes_unsignedQuotient 54 = .ok (.ladd, 1) := by decide +kernel
theorem d_Wholes_unsignedQuotient_55 : decode b_Wholes_unsignedQuotient 55 = .ok (.lreturn, 1) := by decide +kernel
abbrev b_Wholes_turnedUp : ByteArray := prog_9_method_9_code
def y_Wholes_turnedUp : MethodName := ⟨"BitArithmetic$Wholes", "turnedUp", "(IJI)J"⟩
theorem d_Wholes_turnedUp_0 : decode b_Wholes_turnedUp 0 = .ok (.iload_n 0, 1) := by decide +kernel
theorem d_Wholes_turnedUp_1 : decode b_Wholes_turnedUp 1 = .ok (.bipush 32, 2) := by decide +kernel
theorem d_Wholes_turnedUp_3 : decode b_Wholes_turnedUp 3 = .ok (.if_icmp .ne 13, 3) := by decide +kernel
theorem d_Wholes_turnedUp_6 : decode b_Wholes_turnedUp 6 = .ok (.lload_n 1, 1) := by decide +kernel
theorem d_Wholes_turnedUp_7 : decode b_Wholes_turnedUp 7 = .ok (.l2i, 1) := by decide +kernel
theorem d_Wholes_turnedUp_8 : decode b_Wholes_turnedUp 8 = .ok (.iload_n 3, 1) := by decide +kernel
theorem d_Wholes_turnedUp_9 : decode b_Wholes_turnedUp 9 = .ok (.invokestatic 72, 3) := by decide +kernel
theorem d_Wholes_turnedUp_12 : decode b_Wholes_turnedUp 12 = .ok (.i2l, 1) := by decide +kernel
theorem d_Wholes_turnedUp_13 : decode b_Wholes_turnedUp 13 = .ok (.goto 8, 3) := by decide +kernel
theorem d_Wholes_turnedUp_16 : decode b_Wholes_turnedUp 16 = .ok (.lload_n 1, 1) := by decide +kernel
theorem d_Wholes_turnedUp_17 : decode b_Wholes_turnedUp 17 = .ok (.iload_n 3, 1) := by decide +kernel
theorem d_Wholes_turnedUp_18 : decode b_Wholes_turnedUp 18 = .ok (.invokestatic 78, 3) := by decide +kernel
theorem d_Wholes_turnedUp_21 : decode b_Wholes_turnedUp 21 = .ok (.lreturn, 1) := by decide +kernel
abbrev b_Wholes_moved : ByteArray := prog_9_method_8_code
def y_Wholes_moved : MethodName := ⟨"BitArithmetic$Wholes", "moved", "(IIJI)J"⟩
theorem d_Wholes_moved_0 : decode b_Wholes_moved 0 = .ok (.iload_n 0, 1) := by decide +kernel
theorem d_Wholes_moved_1 : decode b_Wholes_moved 1 = .ok (.tableswitch 62 116 119 #[31, 36, 45, 54], 31) := by decide +kernel
theorem d_Wholes_moved_32 : decode b_Wholes_moved 32 = .ok (.lload_n 2, 1) := by decide +kernel
theorem d_Wholes_moved_33 : decode b_Wholes_moved 33 = .ok (.iload 4, 2) := by decide +kernel
theorem d_Wholes_moved_35 : decode b_Wholes_moved 35 = .ok (.lshl, 1) := by decide +kernel
theorem d_Wholes_moved_36 : decode b_Wholes_moved 36 = .ok (.lreturn, 1) := by decide +kernel
theorem d_Wholes_moved_37 : decode b_Wholes_moved 37 = .ok (.iload_n 1, 1) := by decide +kernel
theorem d_Wholes_moved_38 : decode b_Wholes_moved 38 = .ok (.lload_n 2, 1) := by decide +kernel
theorem d_Wholes_moved_39 : decode b_Wholes_moved 39 = .ok (.invokestatic 47, 3) := by decide +kernel
theorem d_Wholes_moved_42 : decode b_Wholes_moved 42 = .ok (.iload 4, 2) := by decide +kernel
theorem d_Wholes_moved_44 : decode b_Wholes_moved 44 = .ok (.lshr, 1) := by decide +kernel
theorem d_Wholes_moved_45 : decode b_Wholes_moved 45 = .ok (.lreturn, 1) := by decide +kernel
theorem d_Wholes_moved_46 : decode b_Wholes_moved 46 = .ok (.iload_n 1, 1) := by decide +kernel
theorem d_Wholes_moved_47 : decode b_Wholes_moved 47 = .ok (.lload_n 2, 1) := by decide +kernel
theorem d_Wholes_moved_48 : decode b_Wholes_moved 48 = .ok (.invokestatic 13, 3) := by decide +kernel
theorem d_Wholes_moved_51 : decode b_Wholes_moved 51 = .ok (.iload 4, 2) := by decide +kernel
theorem d_Wholes_moved_53 : decode b_Wholes_moved 53 = .ok (.lushr, 1) := by decide +kernel
theorem d_Wholes_moved_54 : decode b_Wholes_moved 54 = .ok (.lreturn, 1) := by decide +kernel
theorem d_Wholes_moved_55 : decode b_Wholes_moved 55 = .ok (.iload_n 1, 1) := by decide +kernel
theorem d_Wholes_moved_56 : decode b_Wholes_moved 56 = .ok (.lload_n 2, 1) := by decide +kernel
theorem d_Wholes_moved_57 : decode b_Wholes_moved 57 = .ok (.iload 4, 2) := by decide +kernel
theorem d_Wholes_moved_59 : decode b_Wholes_moved 59 = .ok (.invokestatic 68, 3) := by decide +kernel
theorem d_Wholes_moved_62 : decode b_Wholes_moved 62 = .ok (.lreturn, 1) := by decide +kernel
theorem d_Wholes_moved_63 : decode b_Wholes_moved 63 = .ok (.iload_n 1, 1) := by decide +kernel
theorem d_Wholes_moved_64 : decode b_Wholes_moved 64 = .ok (.lload_n 2, 1) := by decide +kernel
theorem d_Wholes_moved_65 : decode b_Wholes_moved 65 = .ok (.iload_n 1, 1) := by decide +kernel
theorem d_Wholes_moved_66 : decode b_Wholes_moved 66 = .ok (.iload 4, 2) := by decide +kernel
theorem d_Wholes_moved_68 : decode b_Wholes_moved 68 = .ok (.isub, 1) := by decide +kernel
theorem d_Wholes_moved_69 : decode b_Wholes_moved 69 = .ok (.iload_n 1, 1) := by decide +kernel
theorem d_Wholes_moved_70 : decode b_Wholes_moved 70 = .ok (.iconst 1, 1) := by decide +kernel
theorem d_Wholes_moved_71 : decode b_Wholes_moved 71 = .ok (.isub, 1) := by decide +kernel
theorem d_Wholes_moved_72 : decode b_Wholes_moved 72 = .ok (.iand, 1) := by decide +kernel
theorem d_Wholes_moved_73 : decode b_Wholes_moved 73 = .ok (.invokestatic 68, 3) := by decide +kernel
theorem d_Wholes_moved_76 : decode b_Wholes_moved 76 = .ok (.lreturn, 1) := by decide +kernel
abbrev b_Floats_asWhole : ByteArray := prog_4_method_3_code
def y_Floats_asWhole : MethodName := ⟨"BitArithmetic$Floats", "asWhole", "(LBitArithmetic$Form;J)J"⟩
theorem d_Floats_asWhole_0 : decode b_Floats_asWhole 0 = .ok (.aload_n 0, 1) := by decide +kernel
theorem d_Floats_asWhole_1 : decode b_Floats_asWhole 1 = .ok (.lload_n 1, 1) := by decide +kernel
theorem d_Floats_asWhole_2 : decode b_Floats_asWhole 2 = .ok (.invokevirtual 19, 3) := by decide +kernel
theorem d_Floats_asWhole_5 : decode b_Floats_asWhole 5 = .ok (.lconst 0, 1) := by decide +kernel
theorem d_Floats_asWhole_6 : decode b_Floats_asWhole 6 = .ok (.lcmp, 1) := by decide +kernel
theorem d_Floats_asWhole_7 : decode b_Floats_asWhole 7 = .ok (.ifCond .ne 7, 3) := by decide +kernel
theorem d_Floats_asWhole_10 : decode b_Floats_asWhole 10 = .ok (.lload_n 1, 1) := by decide +kernel
theorem d_Floats_asWhole_11 : decode b_Floats_asWhole 11 = .ok (.goto 9, 3) := by decide +kernel
theorem d_Floats_asWhole_14 : decode b_Floats_asWhole 14 = .ok (.aload_n 0, 1) := by decide +kernel
theorem d_Floats_asWhole_15 : decode b_Floats_asWhole 15 = .ok (.lload_n 1, 1) := by decide +kernel
theorem d_Floats_asWhole_16 : decode b_Floats_asWhole 16 = .ok (.invokevirtual 23, 3) := by decide +kernel
theorem d_Floats_asWhole_19 : decode b_Floats_asWhole 19 = .ok (.lneg, 1) := by decide +kernel
theorem d_Floats_asWhole_20 : decode b_Floats_asWhole 20 = .ok (.lreturn, 1) := by decide +kernel
abbrev b_Floats_test : ByteArray := prog_4_method_2_code
def y_Floats_test : MethodName := ⟨"BitArithmetic$Floats", "test", "(ILBitArithmetic$Form;JJ)Z"⟩
theorem d_Floats_test_0 : decode b_Floats_test 0 = .ok (.aload_n 1, 1) := by decide +kernel
theorem d_Floats_test_1 : decode b_Floats_test 1 = .ok (.lload_n 2, 1) := by decide +kernel
theorem d_Floats_test_2 : decode b_Floats_test 2 = .ok (.invokevirtual 7, 3) := by decide +kernel
theorem d_Floats_test_5 : decode b_Floats_test 5 = .ok (.ifCond .ne 12, 3) := by decide +kernel
theorem d_Floats_test_8 : decode b_Floats_test 8 = .ok (.aload_n 1, 1) := by decide +kernel
theorem d_Floats_test_9 : decode b_Floats_test 9 = .ok (.lload 4, 2) := by decide +kernel
theorem d_Floats_test_11 : decode b_Floats_test 11 = .ok (.invokevirtual 7, 3) := by decide +kernel
theorem d_Floats_test_14 : decode b_Floats_test 14 = .ok (.ifCond .eq 15, 3) := by decide +kernel
theorem d_Floats_test_17 : decode b_Floats_test 17 = .ok (.iload_n 0, 1) := by decide +kernel
theorem d_Floats_test_18 : decode b_Floats_test 18 = .ok (.bipush 92, 2) := by decide +kernel
theorem d_Floats_test_20 : decode b_Floats_test 20 = .ok (.if_icmp .ne 7, 3) := by decide +kernel
theorem d_Floats_test_23 : decode b_Floats_test 23 = .ok (.iconst 1, 1) := by decide +kernel
theorem d_Floats_test_24 : decode b_Floats_test 24 = .ok (.goto 4, 3) := by decide +kernel
theorem d_Floats_test_27 : decode b_Floats_test 27 = .ok (.iconst 0, 1) := by decide +kernel
theorem d_Floats_test_28 : decode b_Floats_test 28 = .ok (.ireturn, 1) := by decide +kernel
theorem d_Floats_test_29 : decode b_Floats_test 29 = .ok (.aload_n 1, 1) := by decide +kernel
theorem d_Floats_test_30 : decode b_Floats_test 30 = .ok (.lload_n 2, 1) := by decide +kernel
theorem d_Floats_test_31 : decode b_Floats_test 31 = .ok (.invokestatic 13, 3) := by decide +kernel
theorem d_Floats_test_34 : decode b_Floats_test 34 = .ok (.lstore 6, 2) := by decide +kernel
theorem d_Floats_test_36 : decode b_Floats_test 36 = .ok (.aload_n 1, 1) := by decide +kernel
theorem d_Floats_test_37 : decode b_Floats_test 37 = .ok (.lload 4, 2) := by decide +kernel
theorem d_Floats_test_39 : decode b_Floats_test 39 = .ok (.invokestatic 13, 3) := by decide +kernel
theorem d_Floats_test_42 : decode b_Floats_test 42 = .ok (.lstore 8, 2) := by decide +kernel
theorem d_Floats_test_44 : decode b_Floats_test 44 = .ok (.iload_n 0, 1) := by decide +kernel
theorem d_Floats_test_45 : decode b_Floats_test 45 = .ok (.tableswitch 105 91 95 #[35, 49, 63, 77, 91], 35) := by decide +kernel
theorem d_Floats_test_80 : decode b_Floats_test 80 = .ok (.lload 6, 2) := by decide +kernel
theorem d_Floats_test_82 : decode b_Floats_test 82 = .ok (.lload 8, 2) := by decide +kernel
theorem d_Floats_test_84 : decode b_Floats_test 84 = .ok (.lcmp, 1) := by decide +kernel
theorem d_Floats_test_85 : decode b_Floats_test 85 = .ok (.ifCond .ne 7, 3) := by decide +kernel
theorem d_Floats_test_88 : decode b_Floats_test 88 = .ok (.iconst 1, 1) := by decide +kernel
theorem d_Floats_test_89 : decode b_Floats_test 89 = .ok (.goto 4, 3) := by decide +kernel
theorem d_Floats_test_92 : decode b_Floats_test 92 = .ok (.iconst 0, 1) := by decide +kernel
theorem d_Floats_test_93 : decode b_Floats_test 93 = .ok (.ireturn, 1) := by decide +kernel
theorem d_Floats_test_94 : decode b_Floats_test 94 = .ok (.lload 6, 2) := by decide +kernel
theorem d_Floats_test_96 : decode b_Floats_test 96 = .ok (.lload 8, 2) := by decide +kernel
theorem d_Floats_test_98 : decode b_Floats_test 98 = .ok (.lcmp, 1) := by decide +kernel
theorem d_Floats_test_99 : decode b_Floats_test 99 = .ok (.ifCond .eq 7, 3) := by decide +kernel
theorem d_Floats_test_102 : decode b_Floats_test 102 = .ok (.iconst 1, 1) := by decide +kernel
theorem d_Floats_test_103 : decode b_Floats_test 103 = .ok (.goto 4, 3) := by decide +kernel
theorem d_Floats_test_106 : decode b_Floats_test 106 = .ok (.iconst 0, 1) := by decide +kernel
theorem d_Floats_test_107 : decode b_Floats_test 107 = .ok (.ireturn, 1) := by decide +kernel
theorem d_Floats_test_108 : decode b_Floats_test 108 = .ok (.lload 6, 2) := by decide +kernel
theorem d_Floats_test_110 : decode b_Floats_test 110 = .ok (.lload 8, 2) := by decide +kernel
theorem d_Floats_test_112 : decode b_Floats_test 112 = .ok (.lcmp, 1) := by decide +kernel
theorem d_Floats_test_113 : decode b_Floats_test 113 = .ok (.ifCond .ge 7, 3) := by decide +kernel
theorem d_Floats_test_116 : decode b_Floats_test 116 = .ok (.iconst 1, 1) := by decide +kernel
theorem d_Floats_test_117 : decode b_Floats_test 117 = .ok (.goto 4, 3) := by decide +kernel
theorem d_Floats_test_120 : decode b_Floats_test 120 = .ok (.iconst 0, 1) := by decide +kernel
theorem d_Floats_test_121 : decode b_Floats_test 121 = .ok (.ireturn, 1) := by decide +kernel
theorem d_Floats_test_122 : decode b_Floats_test 122 = .ok (.lload 6, 2) := by decide +kernel
theorem d_Floats_test_124 : decode b_Floats_test 124 = .ok (.lload 8, 2) := by decide +kernel
theorem d_Floats_test_126 : decode b_Floats_test 126 = .ok (.lcmp, 1) := by decide +kernel
theorem d_Floats_test_127 : decode b_Floats_test 127 = .ok (.ifCond .le 7, 3) := by decide +kernel
theorem d_Floats_test_130 : decode b_Floats_test 130 = .ok (.iconst 1, 1) := by decide +kernel
theorem d_Floats_test_131 : decode b_Floats_test 131 = .ok (.goto 4, 3) := by decide +kernel
theorem d_Floats_test_134 : decode b_Floats_test 134 = .ok (.iconst 0, 1) := by decide +kernel
theorem d_Floats_test_135 : decode b_Floats_test 135 = .ok (.ireturn, 1) := by decide +kernel
theorem d_Floats_test_136 : decode b_Floats_test 136 = .ok (.lload 6, 2) := by decide +kernel
theorem d_Floats_test_138 : decode b_Floats_test 138 = .ok (.lload 8, 2) := by decide +kernel
theorem d_Floats_test_140 : decode b_Floats_test 140 = .ok (.lcmp, 1) := by decide +kernel
theorem d_Floats_test_141 : decode b_Floats_test 141 = .ok (.ifCond .gt 7, 3) := by decide +kernel
theorem d_Floats_test_144 : decode b_Floats_test 144 = .ok (.iconst 1, 1) := by decide +kernel
theorem d_Floats_test_145 : decode b_Floats_test 145 = .ok (.goto 4, 3) := by decide +kernel
theorem d_Floats_test_148 : decode b_Floats_test 148 = .ok (.iconst 0, 1) := by decide +kernel
theorem d_Floats_test_149 : decode b_Floats_test 149 = .ok (.ireturn, 1) := by decide +kernel
theorem d_Floats_test_150 : decode b_Floats_test 150 = .ok (.lload 6, 2) := by decide +kernel
theorem d_Floats_test_152 : decode b_Floats_test 152 = .ok (.lload 8, 2) := by decide +kernel
theorem d_Floats_test_154 : decode b_Floats_test 154 = .ok (.lcmp, 1) := by decide +kernel
theorem d_Floats_test_155 : decode b_Floats_test 155 = .ok (.ifCond .lt 7, 3) := by decide +kernel
theorem d_Floats_test_158 : decode b_Floats_test 158 = .ok (.iconst 1, 1) := by decide +kernel
theorem d_Floats_test_159 : decode b_Floats_test 159 = .ok (.goto 4, 3) := by decide +kernel
theorem d_Floats_test_162 : decode b_Floats_test 162 = .ok (.iconst 0, 1) := by decide +kernel
theorem d_Floats_test_163 : decode b_Floats_test 163 = .ok (.ireturn, 1) := by decide +kernel
abbrev b_Floats_isBelow : ByteArray := prog_4_method_5_code
def y_Floats_isBelow : MethodName := ⟨"BitArithmetic$Floats", "isBelow", "(LBitArithmetic$Form;JJ)Z"⟩
theorem d_Floats_isBelow_0 : decode b_Floats_isBelow 0 = .ok (.aload_n 0, 1) := by decide +kernel
theorem d_Floats_isBelow_1 : decode b_Floats_isBelow 1 = .ok (.lload_n 1, 1) := by decide +kernel
theorem d_Floats_isBelow_2 : decode b_Floats_isBelow 2 = .ok (.invokevirtual 56, 3) := by decide +kernel
theorem d_Floats_isBelow_5 : decode b_Floats_isBelow 5 = .ok (.ifCond .eq 37, 3) := by decide +kernel
theorem d_Floats_isBelow_8 : decode b_Floats_isBelow 8 = .ok (.aload_n 0, 1) := by decide +kernel
theorem d_Floats_isBelow_9 : decode b_Floats_isBelow 9 = .ok (.lload_n 3, 1) := by decide +kernel
theorem d_Floats_isBelow_10 : decode b_Floats_isBelow 10 = .ok (.invokevirtual 56, 3) := by decide +kernel
theorem d_Floats_isBelow_13 : decode b_Floats_isBelow 13 = .ok (.ifCond .eq 29, 3) := by decide +kernel
theorem d_Floats_isBelow_16 : decode b_Floats_isBelow 16 = .ok (.aload_n 0, 1) := by decide +kernel
theorem d_Floats_isBelow_17 : decode b_Floats_isBelow 17 = .ok (.lload_n 1, 1) := by decide +kernel
theorem d_Floats_isBelow_18 : decode b_Floats_isBelow 18 = .ok (.invokevirtual 19, 3) := by decide +kernel
theorem d_Floats_isBelow_21 : decode b_Floats_isBelow 21 = .ok (.lconst 0, 1) := by decide +kernel
theorem d_Floats_isBelow_22 : decode b_Floats_isBelow 22 = .ok (.lcmp, 1) := by decide +kernel
theorem d_Floats_isBelow_23 : decode b_Floats_isBelow 23 = .ok (.ifCond .eq 17, 3) := by decide +kernel
theorem d_Floats_isBelow_26 : decode b_Floats_isBelow 26 = .ok (.aload_n 0, 1) := by decide +kernel
theorem d_Floats_isBelow_27 : decode b_Floats_isBelow 27 = .ok (.lload_n 3, 1) := by decide +kernel
theorem d_Floats_isBelow_28 : decode b_Floats_isBelow 28 = .ok (.invokevirtual 19, 3) := by decide +kernel
theorem d_Floats_isBelow_31 : decode b_Floats_isBelow 31 = .ok (.lconst 0, 1) := by decide +kernel
theorem d_Floats_isBelow_32 : decode b_Floats_isBelow 32 = .ok (.lcmp, 1) := by decide +kernel
theorem d_Floats_isBelow_33 : decode b_Floats_isBelow 33 = .ok (.ifCond .ne 7, 3) := by decide +kernel
theorem d_Floats_isBelow_36 : decode b_Floats_isBelow 36 = .ok (.iconst 1, 1) := by decide +kernel
theorem d_Floats_isBelow_37 : decode b_Floats_isBelow 37 = .ok (.goto 4, 3) := by decide +kernel
theorem d_Floats_isBelow_40 : decode b_Floats_isBelow 40 = .ok (.iconst 0, 1) := by decide +kernel
theorem d_Floats_isBelow_41 : decode b_Floats_isBelow 41 = .ok (.ireturn, 1) := by decide +kernel
theorem d_Floats_isBelow_42 : decode b_Floats_isBelow 42 = .ok (.aload_n 0, 1) := by decide +kernel
theorem d_Floats_isBelow_43 : decode b_Floats_isBelow 43 = .ok (.lload_n 1, 1) := by decide +kernel
theorem d_Floats_isBelow_44 : decode b_Floats_isBelow 44 = .ok (.invokestatic 13, 3) := by decide +kernel
theorem d_Floats_isBelow_47 : decode b_Floats_isBelow 47 = .ok (.aload_n 0, 1) := by decide +kernel
theorem d_Floats_isBelow_48 : decode b_Floats_isBelow 48 = .ok (.lload_n 3, 1) := by decide +kernel
theorem d_Floats_isBelow_49 : decode b_Floats_isBelow 49 = .ok (.invokestatic 13, 3) := by decide +kernel
theorem d_Floats_isBelow_52 : decode b_Floats_isBelow 52 = .ok (.lcmp, 1) := by decide +kernel
theorem d_Floats_isBelow_53 : decode b_Floats_isBelow 53 = .ok (.ifCond .ge 7, 3) := by decide +kernel
theorem d_Floats_isBelow_56 : decode b_Floats_isBelow 56 = .ok (.iconst 1, 1) := by decide +kernel
theorem d_Floats_isBelow_57 : decode b_Floats_isBelow 57 = .ok (.goto 4, 3) := by decide +kernel
theorem d_Floats_isBelow_60 : decode b_Floats_isBelow 60 = .ok (.iconst 0, 1) := by decide +kernel
theorem d_Floats_isBelow_61 : decode b_Floats_isBelow 61 = .ok (.ireturn, 1) := by decide +kernel
abbrev b_Floats_finiteSum : ByteArray := prog_4_method_7_code
def y_Floats_finiteSum : MethodName := ⟨"BitArithmetic$Floats", "finiteSum", "(LBitArithmetic$Form;JJ)J"⟩
theorem d_Floats_finiteSum_0 : decode b_Floats_finiteSum 0 = .ok (.aload_n 0, 1) := by decide +kernel
theorem d_Floats_finiteSum_1 : decode b_Floats_finiteSum 1 = .ok (.lload_n 1, 1) := by decide +kernel
theorem d_Floats_finiteSum_2 : decode b_Floats_finiteSum 2 = .ok (.invokevirtual 65, 3) := by decide +kernel
theorem d_Floats_finiteSum_5 : decode b_Floats_finiteSum 5 = .ok (.istore 5, 2) := by decide +kernel
theorem d_Floats_finiteSum_7 : decode b_Floats_finiteSum 7 = .ok (.aload_n 0, 1) := by decide +kernel
theorem d_Floats_finiteSum_8 : decode b_Floats_finiteSum 8 = .ok (.lload_n 1, 1) := by decide +kernel
theorem d_Floats_finiteSum_9 : decode b_Floats_finiteSum 9 = .ok (.invokevirtual 69, 3) := by decide +kernel
theorem d_Floats_finiteSum_12 : decode b_Floats_finiteSum 12 = .ok (.bipush 10, 2) := by decide +kernel
theorem d_Floats_finiteSum_14 : decode b_Floats_finiteSum 14 = .ok (.lshl, 1) := by decide +kernel
theorem d_Floats_finiteSum_15 : decode b_Floats_finiteSum 15 = .ok (.lstore 6, 2) := by decide +kernel
theorem d_Floats_finiteSum_17 : decode b_Floats_finiteSum 17 = .ok (.aload_n 0, 1) := by decide +kernel
theorem d_Floats_finiteSum_18 : decode b_Floats_finiteSum 18 = .ok (.lload_n 3, 1) := by decide +kernel
theorem d_Floats_finiteSum_19 : decode b_Floats_finiteSum 19 = .ok (.invokevirtual 69, 3) := by decide +kernel
theorem d_Floats_finiteSum_22 : decode b_Floats_finiteSum 22 = .ok (.bipush 10, 2) := by decide +kernel
theorem d_Floats_finiteSum_24 : decode b_Floats_finiteSum 24 = .ok (.lshl, 1) := by decide +kernel
theorem d_Floats_finiteSum_25 : decode b_Floats_finiteSum 25 = .ok (.iload 5, 2) := by decide +kernel
theorem d_Floats_finiteSum_27 : decode b_Floats_finiteSum 27 = .ok (.aload_n 0, 1) := by decide +kernel
theorem d_Floats_finiteSum_28 : decode b_Floats_finiteSum 28 = .ok (.lload_n 3, 1) := by decide +kernel
theorem d_Floats_finiteSum_29 : decode b_Floats_finiteSum 29 = .ok (.invokevirtual 65, 3) := by decide +kernel
theorem d_Floats_finiteSum_32 : decode b_Floats_finiteSum 32 = .ok (.isub, 1) := by decide +kernel
theorem d_Floats_finiteSum_33 : decode b_Floats_finiteSum 33 = .ok (.invokestatic 72, 3) := by decide +kernel
theorem d_Floats_finiteSum_36 : decode b_Floats_finiteSum 36 = .ok (.lstore 8, 2) := by decide +kernel
theorem d_Floats_finiteSum_38 : decode b_Floats_finiteSum 38 = .ok (.aload_n 0, 1) := by decide +kernel
theorem d_Floats_finiteSum_39 : decode b_Floats_finiteSum 39 = .ok (.lload_n 1, 1) := by decide +kernel
theorem d_Floats_finiteSum_40 : decode b_Floats_finiteSum 40 = .ok (.invokevirtual 19, 3) := by decide +kernel
theorem d_Floats_finiteSum_43 : decode b_Floats_finiteSum 43 = .ok (.aload_n 0, 1) := by decide +kernel
theorem d_Floats_finiteSum_44 : decode b_Floats_finiteSum 44 = .ok (.lload_n 3, 1) := by decide +kernel
theorem d_Floats_finiteSum_45 : decode b_Floats_finiteSum 45 = .ok (.invokevirtual 19, 3) := by decide +kernel
theorem d_Floats_finiteSum_48 : decode b_Floats_finiteSum 48 = .ok (.lcmp, 1) := by decide +kernel
theorem d_Floats_finiteSum_49 : decode b_Floats_finiteSum 49 = .ok (.ifCond .ne 11, 3) := by decide +kernel
theorem d_Floats_finiteSum_52 : decode b_Floats_finiteSum 52 = .ok (.lload 6, 2) := by decide +kernel
theorem d_Floats_finiteSum_54 : decode b_Floats_finiteSum 54 = .ok (.lload 8, 2) := by decide +kernel
theorem d_Floats_finiteSum_56 : decode b_Floats_finiteSum 56 = .ok (.ladd, 1) := by decide +kernel
theorem d_Floats_finiteSum_57 : decode b_Floats_finiteSum 57 = .ok (.goto 8, 3) := by decide +kernel
theorem d_Floats_finiteSum_60 : decode b_Floats_finiteSum 60 = .ok (.lload 6, 2) := by decide +kernel
theorem d_Floats_finiteSum_62 : decode b_Floats_finiteSum 62 = .ok (.lload 8, 2) := by decide +kernel
theorem d_Floats_finiteSum_64 : decode b_Floats_finiteSum 64 = .ok (.lsub, 1) := by decide +kernel
theorem d_Floats_finiteSum_65 : decode b_Floats_finiteSum 65 = .ok (.lstore 10, 2) := by decide +kernel
theorem d_Floats_finiteSum_67 : decode b_Floats_finiteSum 67 = .ok (.lload 10, 2) := by decide +kernel
theorem d_Floats_finiteSum_69 : decode b_Floats_finiteSum 69 = .ok (.lconst 0, 1) := by decide +kernel
theorem d_Floats_finiteSum_70 : decode b_Floats_finiteSum 70 = .ok (.lcmp, 1) := by decide +kernel
theorem d_Floats_finiteSum_71 : decode b_Floats_finiteSum 71 = .ok (.ifCond .ne 11, 3) := by decide +kernel
theorem d_Floats_finiteSum_74 : decode b_Floats_finiteSum 74 = .ok (.aload_n 0, 1) := by decide +kernel
theorem d_Floats_finiteSum_75 : decode b_Floats_finiteSum 75 = .ok (.lload_n 1, 1) := by decide +kernel
theorem d_Floats_finiteSum_76 : decode b_Floats_finiteSum 76 = .ok (.lload_n 3, 1) := by decide +kernel
theorem d_Floats_finiteSum_77 : decode b_Floats_finiteSum 77 = .ok (.land, 1) := by decide +kernel
theorem d_Floats_finiteSum_78 : decode b_Floats_finiteSum 78 = .ok (.invokevirtual 19, 3) := by decide +kernel
theorem d_Floats_finiteSum_81 : decode b_Floats_finiteSum 81 = .ok (.lreturn, 1) := by decide +kernel
theorem d_Floats_finiteSum_82 : decode b_Floats_finiteSum 82 = .ok (.aload_n 0, 1) := by decide +kernel
theorem d_Floats_finiteSum_83 : decode b_Floats_finiteSum 83 = .ok (.aload_n 0, 1) := by decide +kernel
theorem d_Floats_finiteSum_84 : decode b_Floats_finiteSum 84 = .ok (.lload_n 1, 1) := by decide +kernel
theorem d_Floats_finiteSum_85 : decode b_Floats_finiteSum 85 = .ok (.invokevirtual 19, 3) := by decide +kernel
theorem d_Floats_finiteSum_88 : decode b_Floats_finiteSum 88 = .ok (.lload 10, 2) := by decide +kernel
theorem d_Floats_finiteSum_90 : decode b_Floats_finiteSum 90 = .ok (.iload 5, 2) := by decide +kernel
theorem d_Floats_finiteSum_92 : decode b_Floats_finiteSum 92 = .ok (.bipush 10, 2) := by decide +kernel
theorem d_Floats_finiteSum_94 : decode b_Floats_finiteSum 94 = .ok (.isub, 1) := by decide +kernel
theorem d_Floats_finiteSum_95 : decode b_Floats_finiteSum 95 = .ok (.invokevirtual 78, 3) := by decide +kernel
theorem d_Floats_finiteSum_98 : decode b_Floats_finiteSum 98 = .ok (.lreturn, 1) := by decide +kernel
abbrev b_Floats_sum : ByteArray := prog_4_method_6_code
def y_Floats_sum : MethodName := ⟨"BitArithmetic$Floats", "sum", "(LBitArithmetic$Form;JJ)J"⟩
theorem d_Floats_sum_0 : decode b_Floats_sum 0 = .ok (.aload_n 0, 1) := by decide +kernel
theorem d_Floats_sum_1 : decode b_Floats_sum 1 = .ok (.lload_n 1, 1) := by decide +kernel
theorem d_Floats_sum_2 : decode b_Floats_sum 2 = .ok (.invokevirtual 59, 3) := by decide +kernel
theorem d_Floats_sum_5 : decode b_Floats_sum 5 = .ok (.ifCond .eq 26, 3) := by decide +kernel
theorem d_Floats_sum_8 : decode b_Floats_sum 8 = .ok (.aload_n 0, 1) := by decide +kernel
theorem d_Floats_sum_9 : decode b_Floats_sum 9 = .ok (.lload_n 3, 1) := by decide +kernel
theorem d_Floats_sum_10 : decode b_Floats_sum 10 = .ok (.invokevirtual 59, 3) := by decide +kernel
theorem d_Floats_sum_13 : decode b_Floats_sum 13 = .ok (.ifCond .eq 16, 3) := by decide +kernel
theorem d_Floats_sum_16 : decode b_Floats_sum 16 = .ok (.lload_n 1, 1) := by decide +kernel
theorem d_Floats_sum_17 : decode b_Floats_sum 17 = .ok (.lload_n 3, 1) := by decide +kernel
theorem d_Floats_sum_18 : decode b_Floats_sum 18 = .ok (.lcmp, 1) := by decide +kernel
theorem d_Floats_sum_19 : decode b_Floats_sum 19 = .ok (.ifCond .eq 10, 3) := by decide +kernel
theorem d_Floats_sum_22 : decode b_Floats_sum 22 = .ok (.aload_n 0, 1) := by decide +kernel
theorem d_Floats_sum_23 : decode b_Floats_sum 23 = .ok (.getfield 30, 3) := by decide +kernel
theorem d_Floats_sum_26 : decode b_Floats_sum 26 = .ok (.goto 4, 3) := by decide +kernel
theorem d_Floats_sum_29 : decode b_Floats_sum 29 = .ok (.lload_n 1, 1) := by decide +kernel
theorem d_Floats_sum_30 : decode b_Floats_sum 30 = .ok (.lreturn, 1) := by decide +kernel
theorem d_Floats_sum_31 : decode b_Floats_sum 31 = .ok (.aload_n 0, 1) := by decide +kernel
theorem d_Floats_sum_32 : decode b_Floats_sum 32 = .ok (.lload_n 3, 1) := by decide +kernel
theorem d_Floats_sum_33 : decode b_Floats_sum 33 = .ok (.invokevirtual 59, 3) := by decide +kernel
theorem d_Floats_sum_36 : decode b_Floats_sum 36 = .ok (.ifCond .eq 5, 3) := by decide +kernel
theorem d_Floats_sum_39 : decode b_Floats_sum 39 = .ok (.lload_n 3, 1) := by decide +kernel
theorem d_Floats_sum_40 : decode b_Floats_sum 40 = .ok (.lreturn, 1) := by decide +kernel
theorem d_Floats_sum_41 : decode b_Floats_sum 41 = .ok (.aload_n 0, 1) := by decide +kernel
theorem d_Floats_sum_42 : decode b_Floats_sum 42 = .ok (.lload_n 1, 1) := by decide +kernel
theorem d_Floats_sum_43 : decode b_Floats_sum 43 = .ok (.invokevirtual 23, 3) := by decide +kernel
theorem d_Floats_sum_46 : decode b_Floats_sum 46 = .ok (.aload_n 0, 1) := by decide +kernel
theorem d_Floats_sum_47 : decode b_Floats_sum 47 = .ok (.lload_n 3, 1) := by decide +kernel
theorem d_Floats_sum_48 : decode b_Floats_sum 48 = .ok (.invokevirtual 23, 3) := by decide +kernel
theorem d_Floats_sum_51 : decode b_Floats_sum 51 = .ok (.lcmp, 1) := by decide +kernel
theorem d_Floats_sum_52 : decode b_Floats_sum 52 = .ok (.ifCond .lt 7, 3) := by decide +kernel
theorem d_Floats_sum_55 : decode b_Floats_sum 55 = .ok (.iconst 1, 1) := by decide +kernel
theorem d_Floats_sum_56 : decode b_Floats_sum 56 = .ok (.goto 4, 3) := by decide +kernel
theorem d_Floats_sum_59 : decode b_Floats_sum 59 = .ok (.iconst 0, 1) := by decide +kernel
theorem d_Floats_sum_60 : decode b_Floats_sum 60 = .ok (.istore 5, 2) := by decide +kernel
theorem d_Floats_sum_62 : decode b_Floats_sum 62 = .ok (.iload 5, 2) := by decide +kernel
theorem d_Floats_sum_64 : decode b_Floats_sum 64 = .ok (.ifCond .eq 12, 3) := by decide +kernel
theorem d_Floats_sum_67 : decode b_Floats_sum 67 = .ok (.aload_n 0, 1) := by decide +kernel
theorem d_Floats_sum_68 : decode b_Floats_sum 68 = .ok (.lload_n 1, 1) := by decide +kernel
theorem d_Floats_sum_69 : decode b_Floats_sum 69 = .ok (.lload_n 3, 1) := by decide +kernel
theorem d_Floats_sum_70 : decode b_Floats_sum 70 = .ok (.invokestatic 62, 3) := by decide +kernel
theorem d_Floats_sum_73 : decode b_Floats_sum 73 = .ok (.goto 9, 3) := by decide +kernel
theorem d_Floats_sum_76 : decode b_Floats_sum 76 = .ok (.aload_n 0, 1) := by decide +kernel
theorem d_Floats_sum_77 : decode b_Floats_sum 77 = .ok (.lload_n 3, 1) := by decide +kernel
theorem d_Floats_sum_78 : decode b_Floats_sum 78 = .ok (.lload_n 1, 1) := by decide +kernel
theorem d_Floats_sum_79 : decode b_Floats_sum 79 = .ok (.invokestatic 62, 3) := by decide +kernel
theorem d_Floats_sum_82 : decode b_Floats_sum 82 = .ok (.lreturn, 1) := by decide +kernel
abbrev b_Floats_raised : ByteArray := prog_4_method_11_code
def y_Floats_raised : MethodName := ⟨"BitArithmetic$Floats", "raised", "(LBitArithmetic$Form;J)J"⟩
theorem d_Floats_raised_0 : decode b_Floats_raised 0 = .ok (.aload_n 0, 1) := by decide +kernel
theorem d_Floats_raised_1 : decode b_Floats_raised 1 = .ok (.lload_n 1, 1) := by decide +kernel
theorem d_Floats_raised_2 : decode b_Floats_raised 2 = .ok (.invokevirtual 69, 3) := by decide +kernel
theorem d_Floats_raised_5 : decode b_Floats_raised 5 = .ok (.lstore_n 3, 1) := by decide +kernel
theorem d_Floats_raised_6 : decode b_Floats_raised 6 = .ok (.lload_n 3, 1) := by decide +kernel
theorem d_Floats_raised_7 : decode b_Floats_raised 7 = .ok (.lload_n 3, 1) := by decide +kernel
theorem d_Floats_raised_8 : decode b_Floats_raised 8 = .ok (.invokestatic 104, 3) := by decide +kernel
theorem d_Floats_raised_11 : decode b_Floats_raised 11 = .ok (.iconst 2, 1) := by decide +kernel
theorem d_Floats_raised_12 : decode b_Floats_raised 12 = .ok (.isub, 1) := by decide +kernel
theorem d_Floats_raised_13 : decode b_Floats_raised 13 = .ok (.lshl, 1) := by decide +kernel
theorem d_Floats_raised_14 : decode b_Floats_raised 14 = .ok (.lreturn, 1) := by decide +kernel
abbrev b_Floats_raisedScale : ByteArray := prog_4_method_12_code
def y_Floats_raisedScale : MethodName := ⟨"BitArithmetic$Floats", "raisedScale", "(LBitArithmetic$Form;J)I"⟩
theorem d_Floats_raisedScale_0 : decode b_Floats_raisedScale 0 = .ok (.aload_n 0, 1) := by decide +kernel
theorem d_Floats_raisedScale_1 : decode b_Floats_raisedScale 1 = .ok (.lload_n 1, 1) := by decide +kernel
theorem d_Floats_raisedScale_2 : decode b_Floats_raisedScale 2 = .ok (.invokevirtual 65, 3) := by decide +kernel
theorem d_Floats_raisedScale_5 : decode b_Floats_raisedScale 5 = .ok (.aload_n 0, 1) := by decide +kernel
theorem d_Floats_raisedScale_6 : decode b_Floats_raisedScale 6 = .ok (.lload_n 1, 1) := by decide +kernel
theorem d_Floats_raisedScale_7 : decode b_Floats_raisedScale 7 = .ok (.invokevirtual 69, 3) := by decide +kernel
theorem d_Floats_raisedScale_10 : decode b_Floats_raisedScale 10 = .ok (.invokestatic 104, 3) := by decide +kernel
theorem d_Floats_raisedScale_13 : decode b_Floats_raisedScale 13 = .ok (.iconst 2, 1) := by decide +kernel
theorem d_Floats_raisedScale_14 : decode b_Floats_raisedScale 14 = .ok (.isub, 1) := by decide +kernel
theorem d_Floats_raisedScale_15 : decode b_Floats_raisedScale 15 = .ok (.isub, 1) := by decide +kernel
theorem d_Floats_raisedScale_16 : decode b_Floats_raisedScale 16 = .ok (.ireturn, 1) := by decide +kernel
abbrev b_Floats_product : ByteArray := prog_4_method_8_code
def y_Floats_product : MethodName := ⟨"BitArithmetic$Floats", "product", "(LBitArithmetic$Form;JJ)J"⟩
theorem d_Floats_product_0 : decode b_Floats_product 0 = .ok (.aload_n 0, 1) := by decide +kernel
theorem d_Floats_product_1 : decode b_Floats_product 1 = .ok (.lload_n 1, 1) := by decide +kernel
theorem d_Floats_product_2 : decode b_Floats_product 2 = .ok (.lload_n 3, 1) := by decide +kernel
theorem d_Floats_product_3 : decode b_Floats_product 3 = .ok (.lxor, 1) := by decide +kernel
theorem d_Floats_product_4 : decode b_Floats_product 4 = .ok (.invokevirtual 19, 3) := by decide +kernel
theorem d_Floats_product_7 : decode b_Floats_product 7 = .ok (.lstore 5, 2) := by decide +kernel
theorem d_Floats_product_9 : decode b_Floats_product 9 = .ok (.aload_n 0, 1) := by decide +kernel
theorem d_Floats_product_10 : decode b_Floats_product 10 = .ok (.lload_n 1, 1) := by decide +kernel
theorem d_Floats_product_11 : decode b_Floats_product 11 = .ok (.invokevirtual 56, 3) := by decide +kernel
theorem d_Floats_product_14 : decode b_Floats_product 14 = .ok (.ifCond .ne 11, 3) := by decide +kernel
theorem d_Floats_product_17 : decode b_Floats_product 17 = .ok (.aload_n 0, 1) := by decide +kernel
theorem d_Floats_product_18 : decode b_Floats_product 18 = .ok (.lload_n 3, 1) := by decide +kernel
theorem d_Floats_product_19 : decode b_Floats_product 19 = .ok (.invokevirtual 56, 3) := by decide +kernel
theorem d_Floats_product_22 : decode b_Floats_product 22 = .ok (.ifCond .eq 7, 3) := by decide +kernel
theorem d_Floats_product_25 : decode b_Floats_product 25 = .ok (.iconst 1, 1) := by decide +kernel
theorem d_Floats_product_26 : decode b_Floats_product 26 = .ok (.goto 4, 3) := by decide +kernel
theorem d_Floats_product_29 : decode b_Floats_product 29 = .ok (.iconst 0, 1) := by decide +kernel
theorem d_Floats_product_30 : decode b_Floats_product 30 = .ok (.istore 7, 2) := by decide +kernel
theorem d_Floats_product_32 : decode b_Floats_product 32 = .ok (.aload_n 0, 1) := by decide +kernel
theorem d_Floats_product_33 : decode b_Floats_product 33 = .ok (.lload_n 1, 1) := by decide +kernel
theorem d_Floats_product_34 : decode b_Floats_product 34 = .ok (.invokevirtual 59, 3) := by decide +kernel
theorem d_Floats_product_37 : decode b_Floats_product 37 = .ok (.ifCond .ne 11, 3) := by decide +kernel
theorem d_Floats_product_40 : decode b_Floats_product 40 = .ok (.aload_n 0, 1) := by decide +kernel
theorem d_Floats_product_41 : decode b_Floats_product 41 = .ok (.lload_n 3, 1) := by decide +kernel
theorem d_Floats_product_42 : decode b_Floats_product 42 = .ok (.invokevirtual 59, 3) := by decide +kernel
theorem d_Floats_product_45 : decode b_Floats_product 45 = .ok (.ifCond .eq 23, 3) := by decide +kernel
theorem d_Floats_product_48 : decode b_Floats_product 48 = .ok (.iload 7, 2) := by decide +kernel
theorem d_Floats_product_50 : decode b_Floats_product 50 = .ok (.ifCond .eq 10, 3) := by decide +kernel
theorem d_Floats_product_53 : decode b_Floats_product 53 = .ok (.aload_n 0, 1) := by decide +kernel
theorem d_Floats_product_54 : decode b_Floats_product 54 = .ok (.getfield 30, 3) := by decide +kernel
theorem d_Floats_product_57 : decode b_Floats_product 57 = .ok (.goto 10, 3) := by decide +kernel
theorem d_Floats_product_60 : decode b_Floats_product 60 = .ok (.lload 5, 2) := by decide +kernel
theorem d_Floats_product_62 : decode b_Floats_product 62 = .ok (.aload_n 0, 1) := by decide +kernel
theorem d_Floats_product_63 : decode b_Floats_product 63 = .ok (.getfield 82, 3) := by decide +kernel
theorem d_Floats_product_66 : decode b_Floats_product 66 = .ok (.lor, 1) := by decide +kernel
theorem d_Floats_product_67 : decode b_Floats_product 67 = .ok (.lreturn, 1) := by decide +kernel
theorem d_Floats_product_68 : decode b_Floats_product 68 = .ok (.iload 7, 2) := by decide +kernel
theorem d_Floats_product_70 : decode b_Floats_product 70 = .ok (.ifCond .eq 6, 3) := by decide +kernel
theorem d_Floats_product_73 : decode b_Floats_product 73 = .ok (.lload 5, 2) := by decide +kernel
theorem d_Floats_product_75 : decode b_Floats_product 75 = .ok (.lreturn, 1) := by decide +kernel
theorem d_Floats_product_76 : decode b_Floats_product 76 = .ok (.aload_n 0, 1) := by decide +kernel
theorem d_Floats_product_77 : decode b_Floats_product 77 = .ok (.lload_n 1, 1) := by decide +kernel
theorem d_Floats_product_78 : decode b_Floats_product 78 = .ok (.invokestatic 85, 3) := by decide +kernel
theorem d_Floats_product_81 : decode b_Floats_product 81 = .ok (.lstore 8, 2) := by decide +kernel
theorem d_Floats_product_83 : decode b_Floats_product 83 = .ok (.aload_n 0, 1) := by decide +kernel
theorem d_Floats_product_84 : decode b_Floats_product 84 = .ok (.lload_n 3, 1) := by decide +kernel
theorem d_Floats_product_85 : decode b_Floats_product 85 = .ok (.invokestatic 85, 3) := by decide +kernel
theorem d_Floats_product_88 : decode b_Floats_product 88 = .ok (.lstore 10, 2) := by decide +kernel
theorem d_Floats_product_90 : decode b_Floats_product 90 = .ok (.lload 8, 2) := by decide +kernel
theorem d_Floats_product_92 : decode b_Floats_product 92 = .ok (.lload 10, 2) := by decide +kernel
theorem d_Floats_product_94 : decode b_Floats_product 94 = .ok (.invokestatic 88, 3) := by decide +kernel
theorem d_Floats_product_97 : decode b_Floats_product 97 = .ok (.lload 8, 2) := by decide +kernel
theorem d_Floats_product_99 : decode b_Floats_product 99 = .ok (.lload 10, 2) := by decide +kernel
theorem d_Floats_product_101 : decode b_Floats_product 101 = .ok (.lmul, 1) := by decide +kernel
theorem d_Floats_product_102 : decode b_Floats_product 102 = .ok (.invokestatic 94, 3) := by decide +kernel
theorem d_Floats_product_105 : decode b_Floats_product 105 = .ok (.lstore 12, 2) := by decide +kernel
theorem d_Floats_product_107 : decode b_Floats_product 107 = .ok (.aload_n 0, 1) := by decide +kernel
theorem d_Floats_product_108 : decode b_Floats_product 108 = .ok (.lload 5, 2) := by decide +kernel
theorem d_Floats_product_110 : decode b_Floats_product 110 = .ok (.lload 12, 2) := by decide +kernel
theorem d_Floats_product_112 : decode b_Floats_product 112 = .ok (.aload_n 0, 1) := by decide +kernel
theorem d_Floats_product_113 : decode b_Floats_product 113 = .ok (.lload_n 1, 1) := by decide +kernel
theorem d_Floats_product_114 : decode b_Floats_product 114 = .ok (.invokestatic 97, 3) := by decide +kernel
theorem d_Floats_product_117 : decode b_Floats_product 117 = .ok (.aload_n 0, 1) := by decide +kernel
theorem d_Floats_product_118 : decode b_Floats_product 118 = .ok (.lload_n 3, 1) := by decide +kernel
theorem d_Floats_product_119 : decode b_Floats_product 119 = .ok (.invokestatic 97, 3) := by decide +kernel
theorem d_Floats_product_122 : decode b_Floats_product 122 = .ok (.iadd, 1) := by decide +kernel
theorem d_Floats_product_123 : decode b_Floats_product 123 = .ok (.bipush 64, 2) := by decide +kernel
theorem d_Floats_product_125 : decode b_Floats_product 125 = .ok (.iadd, 1) := by decide +kernel
theorem d_Floats_product_126 : decode b_Floats_product 126 = .ok (.invokevirtual 78, 3) := by decide +kernel
theorem d_Floats_product_129 : decode b_Floats_product 129 = .ok (.lreturn, 1) := by decide +kernel
abbrev b_Steps_goesAway : ByteArray := prog_8_method_6_code
def y_Steps_goesAway : MethodName := ⟨"BitArithmetic$Steps", "goesAway", "(IJ)Z"⟩
theorem d_Steps_goesAway_0 : decode b_Steps_goesAway 0 = .ok (.iload_n 0, 1) := by decide +kernel
theorem d_Steps_goesAway_1 : decode b_Steps_goesAway 1 = .ok (.sipush 141, 3) := by decide +kernel
theorem d_Steps_goesAway_4 : decode b_Steps_goesAway 4 = .ok (.if_icmp .ne 9, 3) := by decide +kernel
theorem d_Steps_goesAway_7 : decode b_Steps_goesAway 7 = .ok (.lload_n 1, 1) := by decide +kernel
theorem d_Steps_goesAway_8 : decode b_Steps_goesAway 8 = .ok (.lconst 0, 1) := by decide +kernel
theorem d_Steps_goesAway_9 : decode b_Steps_goesAway 9 = .ok (.lcmp, 1) := by decide +kernel
theorem d_Steps_goesAway_10 : decode b_Steps_goesAway 10 = .ok (.ifCond .eq 16, 3) := by decide +kernel
theorem d_Steps_goesAway_13 : decode b_Steps_goesAway 13 = .ok (.iload_n 0, 1) := by decide +kernel
theorem d_Steps_goesAway_14 : decode b_Steps_goesAway 14 = .ok (.sipush 142, 3) := by decide +kernel
theorem d_Steps_goesAway_17 : decode b_Steps_goesAway 17 = .ok (.if_icmp .ne 13, 3) := by decide +kernel
theorem d_Steps_goesAway_20 : decode b_Steps_goesAway 20 = .ok (.lload_n 1, 1) := by decide +kernel
theorem d_Steps_goesAway_21 : decode b_Steps_goesAway 21 = .ok (.lconst 0, 1) := by decide +kernel
theorem d_Steps_goesAway_22 : decode b_Steps_goesAway 22 = .ok (.lcmp, 1) := by decide +kernel
theorem d_Steps_goesAway_23 : decode b_Steps_goesAway 23 = .ok (.ifCond .eq 7, 3) := by decide +kernel
theorem d_Steps_goesAway_26 : decode b_Steps_goesAway 26 = .ok (.iconst 1, 1) := by decide +kernel
theorem d_Steps_goesAway_27 : decode b_Steps_goesAway 27 = .ok (.goto 4, 3) := by decide +kernel
theorem d_Steps_goesAway_30 : decode b_Steps_goesAway 30 = .ok (.iconst 0, 1) := by decide +kernel
theorem d_Steps_goesAway_31 : decode b_Steps_goesAway 31 = .ok (.ireturn, 1) := by decide +kernel
abbrev b_Steps_isNearerAway : ByteArray := prog_8_method_5_code
def y_Steps_isNearerAway : MethodName := ⟨"BitArithmetic$Steps", "isNearerAway", "(JJJ)Z"⟩
theorem d_Steps_isNearerAway_0 : decode b_Steps_isNearerAway 0 = .ok (.lload 4, 2) := by decide +kernel
theorem d_Steps_isNearerAway_2 : decode b_Steps_isNearerAway 2 = .ok (.iconst 1, 1) := by decide +kernel
theorem d_Steps_isNearerAway_3 : decode b_Steps_isNearerAway 3 = .ok (.lushr, 1) := by decide +kernel
theorem d_Steps_isNearerAway_4 : decode b_Steps_isNearerAway 4 = .ok (.lstore 6, 2) := by decide +kernel
theorem d_Steps_isNearerAway_6 : decode b_Steps_isNearerAway 6 = .ok (.lload_n 2, 1) := by decide +kernel
theorem d_Steps_isNearerAway_7 : decode b_Steps_isNearerAway 7 = .ok (.lload 6, 2) := by decide +kernel
theorem d_Steps_isNearerAway_9 : decode b_Steps_isNearerAway 9 = .ok (.lcmp, 1) := by decide +kernel
theorem d_Steps_isNearerAway_10 : decode b_Steps_isNearerAway 10 = .ok (.ifCond .gt 19, 3) := by decide +kernel
theorem d_Steps_isNearerAway_13 : decode b_Steps_isNearerAway 13 = .ok (.lload_n 2, 1) := by decide +kernel
theorem d_Steps_isNearerAway_14 : decode b_Steps_isNearerAway 14 = .ok (.lload 6, 2) := by decide +kernel
theorem d_Steps_isNearerAway_16 : decode b_Steps_isNearerAway 16 = .ok (.lcmp, 1) := by decide +kernel
theorem d_Steps_isNearerAway_17 : decode b_Steps_isNearerAway 17 = .ok (.ifCond .ne 16, 3) := by decide +kernel
theorem d_Steps_isNearerAway_20 : decode b_Steps_isNearerAway 20 = .ok (.lload_n 0, 1) := by decide +kernel
theorem d_Steps_isNearerAway_21 : decode b_Steps_isNearerAway 21 = .ok (.lload 4, 2) := by decide +kernel
theorem d_Steps_isNearerAway_23 : decode b_Steps_isNearerAway 23 = .ok (.land, 1) := by decide +kernel
theorem d_Steps_isNearerAway_24 : decode b_Steps_isNearerAway 24 = .ok (.lconst 0, 1) := by decide +kernel
theorem d_Steps_isNearerAway_25 : decode b_Steps_isNearerAway 25 = .ok (.lcmp, 1) := by decide +kernel
theorem d_Steps_isNearerAway_26 : decode b_Steps_isNearerAway 26 = .ok (.ifCond .eq 7, 3) := by decide +kernel
theorem d_Steps_isNearerAway_29 : decode b_Steps_isNearerAway 29 = .ok (.iconst 1, 1) := by decide +kernel
theorem d_Steps_isNearerAway_30 : decode b_Steps_isNearerAway 30 = .ok (.goto 4, 3) := by decide +kernel
theorem d_Steps_isNearerAway_33 : decode b_Steps_isNearerAway 33 = .ok (.iconst 0, 1) := by decide +kernel
theorem d_Steps_isNearerAway_34 : decode b_Steps_isNearerAway 34 = .ok (.ireturn, 1) := by decide +kernel
abbrev b_Steps_fromOneOn : ByteArray := prog_8_method_4_code
def y_Steps_fromOneOn : MethodName := ⟨"BitArithmetic$Steps", "fromOneOn", "(ILBitArithmetic$Form;JI)J"⟩
theorem d_Steps_fromOneOn_0 : decode b_Steps_fromOneOn 0 = .ok (.lconst 1, 1) := by decide +kernel
theorem d_Steps_fromOneOn_1 : decode b_Steps_fromOneOn 1 = .ok (.iload 4, 2) := by decide +kernel
theorem d_Steps_fromOneOn_3 : decode b_Steps_fromOneOn 3 = .ok (.lshl, 1) := by decide +kernel
theorem d_Steps_fromOneOn_4 : decode b_Steps_fromOneOn 4 = .ok (.lstore 5, 2) := by decide +kernel
theorem d_Steps_fromOneOn_6 : decode b_Steps_fromOneOn 6 = .ok (.lload_n 2, 1) := by decide +kernel
theorem d_Steps_fromOneOn_7 : decode b_Steps_fromOneOn 7 = .ok (.lload 5, 2) := by decide +kernel
theorem d_Steps_fromOneOn_9 : decode b_Steps_fromOneOn 9 = .ok (.lconst 1, 1) := by decide +kernel
theorem d_Steps_fromOneOn_10 : decode b_Steps_fromOneOn 10 = .ok (.lsub, 1) := by decide +kernel
theorem d_Steps_fromOneOn_11 : decode b_Steps_fromOneOn 11 = .ok (.land, 1) := by decide +kernel
theorem d_Steps_fromOneOn_12 : decode b_Steps_fromOneOn 12 = .ok (.lstore 7, 2) := by decide +kernel
theorem d_Steps_fromOneOn_14 : decode b_Steps_fromOneOn 14 = .ok (.lload_n 2, 1) := by decide +kernel
theorem d_Steps_fromOneOn_15 : decode b_Steps_fromOneOn 15 = .ok (.lload 7, 2) := by decide +kernel
theorem d_Steps_fromOneOn_17 : decode b_Steps_fromOneOn 17 = .ok (.lsub, 1) := by decide +kernel
theorem d_Steps_fromOneOn_18 : decode b_Steps_fromOneOn 18 = .ok (.lstore 9, 2) := by decide +kernel
theorem d_Steps_fromOneOn_20 : decode b_Steps_fromOneOn 20 = .ok (.lload 7, 2) := by decide +kernel
theorem d_Steps_fromOneOn_22 : decode b_Steps_fromOneOn 22 = .ok (.lconst 0, 1) := by decide +kernel
theorem d_Steps_fromOneOn_23 : decode b_Steps_fromOneOn 23 = .ok (.lcmp, 1) := by decide +kernel
theorem d_Steps_fromOneOn_24 : decode b_Steps_fromOneOn 24 = .ok (.ifCond .ne 5, 3) := by decide +kernel
theorem d_Steps_fromOneOn_27 : decode b_Steps_fromOneOn 27 = .ok (.lload_n 2, 1) := by decide +kernel
theorem d_Steps_fromOneOn_28 : decode b_Steps_fromOneOn 28 = .ok (.lreturn, 1) := by decide +kernel
theorem d_Steps_fromOneOn_29 : decode b_Steps_fromOneOn 29 = .ok (.iload_n 0, 1) := by decide +kernel
theorem d_Steps_fromOneOn_30 : decode b_Steps_fromOneOn 30 = .ok (.sipush 144, 3) := by decide +kernel
theorem d_Steps_fromOneOn_33 : decode b_Steps_fromOneOn 33 = .ok (.if_icmp .ne 15, 3) := by decide +kernel
theorem d_Steps_fromOneOn_36 : decode b_Steps_fromOneOn 36 = .ok (.lload 9, 2) := by decide +kernel
theorem d_Steps_fromOneOn_38 : decode b_Steps_fromOneOn 38 = .ok (.lload 7, 2) := by decide +kernel
theorem d_Steps_fromOneOn_40 : decode b_Steps_fromOneOn 40 = .ok (.lload 5, 2) := by decide +kernel
theorem d_Steps_fromOneOn_42 : decode b_Steps_fromOneOn 42 = .ok (.invokestatic 45, 3) := by decide +kernel
theorem d_Steps_fromOneOn_45 : decode b_Steps_fromOneOn 45 = .ok (.goto 12, 3) := by decide +kernel
theorem d_Steps_fromOneOn_48 : decode b_Steps_fromOneOn 48 = .ok (.iload_n 0, 1) := by decide +kernel
theorem d_Steps_fromOneOn_49 : decode b_Steps_fromOneOn 49 = .ok (.aload_n 1, 1) := by decide +kernel
theorem d_Steps_fromOneOn_50 : decode b_Steps_fromOneOn 50 = .ok (.lload_n 2, 1) := by decide +kernel
theorem d_Steps_fromOneOn_51 : decode b_Steps_fromOneOn 51 = .ok (.invokevirtual 34, 3) := by decide +kernel
theorem d_Steps_fromOneOn_54 : decode b_Steps_fromOneOn 54 = .ok (.invokestatic 41, 3) := by decide +kernel
theorem d_Steps_fromOneOn_57 : decode b_Steps_fromOneOn 57 = .ok (.istore 11, 2) := by decide +kernel
theorem d_Steps_fromOneOn_59 : decode b_Steps_fromOneOn 59 = .ok (.iload 11, 2) := by decide +kernel
theorem d_Steps_fromOneOn_61 : decode b_Steps_fromOneOn 61 = .ok (.ifCond .eq 11, 3) := by decide +kernel
theorem d_Steps_fromOneOn_64 : decode b_Steps_fromOneOn 64 = .ok (.lload 9, 2) := by decide +kernel
theorem d_Steps_fromOneOn_66 : decode b_Steps_fromOneOn 66 = .ok (.lload 5, 2) := by decide +kernel
theorem d_Steps_fromOneOn_68 : decode b_Steps_fromOneOn 68 = .ok (.ladd, 1) := by decide +kernel
theorem d_Steps_fromOneOn_69 : decode b_Steps_fromOneOn 69 = .ok (.goto 5, 3) := by decide +kernel
theorem d_Steps_fromOneOn_72 : decode b_Steps_fromOneOn 72 = .ok (.lload 9, 2) := by decide +kernel
theorem d_Steps_fromOneOn_74 : decode b_Steps_fromOneOn 74 = .ok (.lreturn, 1) := by decide +kernel
abbrev b_Steps_belowOne : ByteArray := prog_8_method_3_code
def y_Steps_belowOne : MethodName := ⟨"BitArithmetic$Steps", "belowOne", "(ILBitArithmetic$Form;J)J"⟩
theorem d_Steps_belowOne_0 : decode b_Steps_belowOne 0 = .ok (.aload_n 1, 1) := by decide +kernel
theorem d_Steps_belowOne_1 : decode b_Steps_belowOne 1 = .ok (.lload_n 2, 1) := by decide +kernel
theorem d_Steps_belowOne_2 : decode b_Steps_belowOne 2 = .ok (.invokevirtual 34, 3) := by decide +kernel
theorem d_Steps_belowOne_5 : decode b_Steps_belowOne 5 = .ok (.lstore 4, 2) := by decide +kernel
theorem d_Steps_belowOne_7 : decode b_Steps_belowOne 7 = .ok (.aload_n 1, 1) := by decide +kernel
theorem d_Steps_belowOne_8 : decode b_Steps_belowOne 8 = .ok (.getfield 17, 3) := by decide +kernel
theorem d_Steps_belowOne_11 : decode b_Steps_belowOne 11 = .ok (.i2l, 1) := by decide +kernel
theorem d_Steps_belowOne_12 : decode b_Steps_belowOne 12 = .ok (.aload_n 1, 1) := by decide +kernel
theorem d_Steps_belowOne_13 : decode b_Steps_belowOne 13 = .ok (.getfield 7, 3) := by decide +kernel
theorem d_Steps_belowOne_16 : decode b_Steps_belowOne 16 = .ok (.lshl, 1) := by decide +kernel
theorem d_Steps_belowOne_17 : decode b_Steps_belowOne 17 = .ok (.lstore 6, 2) := by decide +kernel
theorem d_Steps_belowOne_19 : decode b_Steps_belowOne 19 = .ok (.aload_n 1, 1) := by decide +kernel
theorem d_Steps_belowOne_20 : decode b_Steps_belowOne 20 = .ok (.getfield 17, 3) := by decide +kernel
theorem d_Steps_belowOne_23 : decode b_Steps_belowOne 23 = .ok (.iconst 1, 1) := by decide +kernel
theorem d_Steps_belowOne_24 : decode b_Steps_belowOne 24 = .ok (.isub, 1) := by decide +kernel
theorem d_Steps_belowOne_25 : decode b_Steps_belowOne 25 = .ok (.i2l, 1) := by decide +kernel
theorem d_Steps_belowOne_26 : decode b_Steps_belowOne 26 = .ok (.aload_n 1, 1) := by decide +kernel
theorem d_Steps_belowOne_27 : decode b_Steps_belowOne 27 = .ok (.getfield 7, 3) := by decide +kernel
theorem d_Steps_belowOne_30 : decode b_Steps_belowOne 30 = .ok (.lshl, 1) := by decide +kernel
theorem d_Steps_belowOne_31 : decode b_Steps_belowOne 31 = .ok (.lstore 8, 2) := by decide +kernel
theorem d_Steps_belowOne_33 : decode b_Steps_belowOne 33 = .ok (.iload_n 0, 1) := by decide +kernel
theorem d_Steps_belowOne_34 : decode b_Steps_belowOne 34 = .ok (.sipush 144, 3) := by decide +kernel
theorem d_Steps_belowOne_37 : decode b_Steps_belowOne 37 = .ok (.if_icmp .ne 22, 3) := by decide +kernel
theorem d_Steps_belowOne_40 : decode b_Steps_belowOne 40 = .ok (.aload_n 1, 1) := by decide +kernel
theorem d_Steps_belowOne_41 : decode b_Steps_belowOne 41 = .ok (.lload_n 2, 1) := by decide +kernel
theorem d_Steps_belowOne_42 : decode b_Steps_belowOne 42 = .ok (.invokevirtual 38, 3) := by decide +kernel
theorem d_Steps_belowOne_45 : decode b_Steps_belowOne 45 = .ok (.lload 8, 2) := by decide +kernel
theorem d_Steps_belowOne_47 : decode b_Steps_belowOne 47 = .ok (.lcmp, 1) := by decide +kernel
theorem d_Steps_belowOne_48 : decode b_Steps_belowOne 48 = .ok (.ifCond .le 7, 3) := by decide +kernel
theorem d_Steps_belowOne_51 : decode b_Steps_belowOne 51 = .ok (.iconst 1, 1) := by decide +kernel
theorem d_Steps_belowOne_52 : decode b_Steps_belowOne 52 = .ok (.goto 13, 3) := by decide +kernel
theorem d_Steps_belowOne_55 : decode b_Steps_belowOne 55 = .ok (.iconst 0, 1) := by decide +kernel
theorem d_Steps_belowOne_56 : decode b_Steps_belowOne 56 = .ok (.goto 9, 3) := by decide +kernel
theorem d_Steps_belowOne_59 : decode b_Steps_belowOne 59 = .ok (.iload_n 0, 1) := by decide +kernel
theorem d_Steps_belowOne_60 : decode b_Steps_belowOne 60 = .ok (.lload 4, 2) := by decide +kernel
theorem d_Steps_belowOne_62 : decode b_Steps_belowOne 62 = .ok (.invokestatic 41, 3) := by decide +kernel
theorem d_Steps_belowOne_65 : decode b_Steps_belowOne 65 = .ok (.istore 10, 2) := by decide +kernel
theorem d_Steps_belowOne_67 : decode b_Steps_belowOne 67 = .ok (.iload 10, 2) := by decide +kernel
theorem d_Steps_belowOne_69 : decode b_Steps_belowOne 69 = .ok (.ifCond .eq 11, 3) := by decide +kernel
theorem d_Steps_belowOne_72 : decode b_Steps_belowOne 72 = .ok (.lload 4, 2) := by decide +kernel
theorem d_Steps_belowOne_74 : decode b_Steps_belowOne 74 = .ok (.lload 6, 2) := by decide +kernel
theorem d_Steps_belowOne_76 : decode b_Steps_belowOne 76 = .ok (.lor, 1) := by decide +kernel
theorem d_Steps_belowOne_77 : decode b_Steps_belowOne 77 = .ok (.goto 5, 3) := by decide +kernel
theorem d_Steps_belowOne_80 : decode b_Steps_belowOne 80 = .ok (.lload 4, 2) := by decide +kernel
theorem d_Steps_belowOne_82 : decode b_Steps_belowOne 82 = .ok (.lreturn, 1) := by decide +kernel
abbrev b_Steps_toWhole : ByteArray := prog_8_method_2_code
def y_Steps_toWhole : MethodName := ⟨"BitArithmetic$Steps", "toWhole", "(ILBitArithmetic$Form;J)J"⟩
theorem d_Steps_toWhole_0 : decode b_Steps_toWhole 0 = .ok (.aload_n 1, 1) := by decide +kernel
theorem d_Steps_toWhole_1 : decode b_Steps_toWhole 1 = .ok (.getfield 7, 3) := by decide +kernel
theorem d_Steps_toWhole_4 : decode b_Steps_toWhole 4 = .ok (.aload_n 1, 1) := by decide +kernel
theorem d_Steps_toWhole_5 : decode b_Steps_toWhole 5 = .ok (.lload_n 2, 1) := by decide +kernel
theorem d_Steps_toWhole_6 : decode b_Steps_toWhole 6 = .ok (.invokevirtual 13, 3) := by decide +kernel
theorem d_Steps_toWhole_9 : decode b_Steps_toWhole 9 = .ok (.aload_n 1, 1) := by decide +kernel
theorem d_Steps_toWhole_10 : decode b_Steps_toWhole 10 = .ok (.getfield 17, 3) := by decide +kernel
theorem d_Steps_toWhole_13 : decode b_Steps_toWhole 13 = .ok (.isub, 1) := by decide +kernel
theorem d_Steps_toWhole_14 : decode b_Steps_toWhole 14 = .ok (.isub, 1) := by decide +kernel
theorem d_Steps_toWhole_15 : decode b_Steps_toWhole 15 = .ok (.istore 4, 2) := by decide +kernel
theorem d_Steps_toWhole_17 : decode b_Steps_toWhole 17 = .ok (.iload 4, 2) := by decide +kernel
theorem d_Steps_toWhole_19 : decode b_Steps_toWhole 19 = .ok (.ifCond .le 11, 3) := by decide +kernel
theorem d_Steps_toWhole_22 : decode b_Steps_toWhole 22 = .ok (.aload_n 1, 1) := by decide +kernel
theorem d_Steps_toWhole_23 : decode b_Steps_toWhole 23 = .ok (.lload_n 2, 1) := by decide +kernel
theorem d_Steps_toWhole_24 : decode b_Steps_toWhole 24 = .ok (.invokevirtual 20, 3) := by decide +kernel
theorem d_Steps_toWhole_27 : decode b_Steps_toWhole 27 = .ok (.ifCond .eq 5, 3) := by decide +kernel
theorem d_Steps_toWhole_30 : decode b_Steps_toWhole 30 = .ok (.lload_n 2, 1) := by decide +kernel
theorem d_Steps_toWhole_31 : decode b_Steps_toWhole 31 = .ok (.lreturn, 1) := by decide +kernel
theorem d_Steps_toWhole_32 : decode b_Steps_toWhole 32 = .ok (.iload 4, 2) := by decide +kernel
theorem d_Steps_toWhole_34 : decode b_Steps_toWhole 34 = .ok (.aload_n 1, 1) := by decide +kernel
theorem d_Steps_toWhole_35 : decode b_Steps_toWhole 35 = .ok (.getfield 7, 3) := by decide +kernel
theorem d_Steps_toWhole_38 : decode b_Steps_toWhole 38 = .ok (.if_icmp .le 12, 3) := by decide +kernel
theorem d_Steps_toWhole_41 : decode b_Steps_toWhole 41 = .ok (.iload_n 0, 1) := by decide +kernel
theorem d_Steps_toWhole_42 : decode b_Steps_toWhole 42 = .ok (.aload_n 1, 1) := by decide +kernel
theorem d_Steps_toWhole_43 : decode b_Steps_toWhole 43 = .ok (.lload_n 2, 1) := by decide +kernel
theorem d_Steps_toWhole_44 : decode b_Steps_toWhole 44 = .ok (.invokestatic 24, 3) := by decide +kernel
theorem d_Steps_toWhole_47 : decode b_Steps_toWhole 47 = .ok (.goto 11, 3) := by decide +kernel
theorem d_Steps_toWhole_50 : decode b_Steps_toWhole 50 = .ok (.iload_n 0, 1) := by decide +kernel
theorem d_Steps_toWhole_51 : decode b_Steps_toWhole 51 = .ok (.aload_n 1, 1) := by decide +kernel
theorem d_Steps_toWhole_52 : decode b_Steps_toWhole 52 = .ok (.lload_n 2, 1) := by decide +kernel
theorem d_Steps_toWhole_53 : decode b_Steps_toWhole 53 = .ok (.iload 4, 2) := by decide +kernel
theorem d_Steps_toWhole_55 : decode b_Steps_toWhole 55 = .ok (.invokestatic 30, 3) := by decide +kernel
theorem d_Steps_toWhole_58 : decode b_Steps_toWhole 58 = .ok (.lreturn, 1) := by decide +kernel
abbrev b_Conversions_fromUnsigned : ByteArray := prog_3_method_5_code
def y_Conversions_fromUnsigned : MethodName := ⟨"BitArithmetic$Conversions", "fromUnsigned", "(LBitArithmetic$Form;J)J"⟩
theorem d_Conversions_fromUnsigned_0 : decode b_Conversions_fromUnsigned 0 = .ok (.lload_n 1, 1) := by decide +kernel
theorem d_Conversions_fromUnsigned_1 : decode b_Conversions_fromUnsigned 1 = .ok (.lconst 0, 1) := by decide +kernel
theorem d_Conversions_fromUnsigned_2 : decode b_Conversions_fromUnsigned 2 = .ok (.lcmp, 1) := by decide +kernel
theorem d_Conversions_fromUnsigned_3 : decode b_Conversions_fromUnsigned 3 = .ok (.ifCond .ne 7, 3) := by decide +kernel
theorem d_Conversions_fromUnsigned_6 : decode b_Conversions_fromUnsigned 6 = .ok (.lconst 0, 1) := by decide +kernel
theorem d_Conversions_fromUnsigned_7 : decode b_Conversions_fromUnsigned 7 = .ok (.goto 10, 3) := by decide +kernel
theorem d_Conversions_fromUnsigned_10 : decode b_Conversions_fromUnsigned 10 = .ok (.aload_n 0, 1) := by decide +kernel
theorem d_Conversions_fromUnsigned_11 : decode b_Conversions_fromUnsigned 11 = .ok (.lconst 0, 1) := by decide +kernel
theorem d_Conversions_fromUnsigned_12 : decode b_Conversions_fromUnsigned 12 = .ok (.lload_n 1, 1) := by decide +kernel
theorem d_Conversions_fromUnsigned_13 : decode b_Conversions_fromUnsigned 13 = .ok (.iconst 0, 1) := by decide +kernel
theorem d_Conversions_fromUnsigned_14 : decode b_Conversions_fromUnsigned 14 = .ok (.invokevirtual 46, 3) := by decide +kernel
theorem d_Conversions_fromUnsigned_17 : decode b_Conversions_fromUnsigned 17 = .ok (.lreturn, 1) := by decide +kernel
abbrev b_Conversions_fromSigned : ByteArray := prog_3_method_4_code
def y_Conversions_fromSigned : MethodName := ⟨"BitArithmetic$Conversions", "fromSigned", "(LBitArithmetic$Form;J)J"⟩
theorem d_Conversions_fromSigned_0 : decode b_Conversions_fromSigned 0 = .ok (.lload_n 1, 1) := by decide +kernel
theorem d_Conversions_fromSigned_1 : decode b_Conversions_fromSigned 1 = .ok (.lconst 0, 1) := by decide +kernel
theorem d_Conversions_fromSigned_2 : decode b_Conversions_fromSigned 2 = .ok (.lcmp, 1) := by decide +kernel
theorem d_Conversions_fromSigned_3 : decode b_Conversions_fromSigned 3 = .ok (.ifCond .ge 17, 3) := by decide +kernel
theorem d_Conversions_fromSigned_6 : decode b_Conversions_fromSigned 6 = .ok (.aload_n 0, 1) := by decide +kernel
theorem d_Conversions_fromSigned_7 : decode b_Conversions_fromSigned 7 = .ok (.aload_n 0, 1) := by decide +kernel
theorem d_Conversions_fromSigned_8 : decode b_Conversions_fromSigned 8 = .ok (.getfield 42, 3) := by decide +kernel
theorem d_Conversions_fromSigned_11 : decode b_Conversions_fromSigned 11 = .ok (.lload_n 1, 1) := by decide +kernel
theorem d_Conversions_fromSigned_12 : decode b_Conversions_fromSigned 12 = .ok (.lneg, 1) := by decide +kernel
theorem d_Conversions_fromSigned_13 : decode b_Conversions_fromSigned 13 = .ok (.iconst 0, 1) := by decide +kernel
theorem d_Conversions_fromSigned_14 : decode b_Conversions_fromSigned 14 = .ok (.invokevirtual 46, 3) := by decide +kernel
theorem d_Conversions_fromSigned_17 : decode b_Conversions_fromSigned 17 = .ok (.goto 8, 3) := by decide +kernel
theorem d_Conversions_fromSigned_20 : decode b_Conversions_fromSigned 20 = .ok (.aload_n 0, 1) := by decide +kernel
theorem d_Conversions_fromSigned_21 : decode b_Conversions_fromSigned 21 = .ok (.lload_n 1, 1) := by decide +kernel
theorem d_Conversions_fromSigned_22 : decode b_Conversions_fromSigned 22 = .ok (.invokestatic 35, 3) := by decide +kernel
theorem d_Conversions_fromSigned_25 : decode b_Conversions_fromSigned 25 = .ok (.lreturn, 1) := by decide +kernel
abbrev b_Conversions_fromFloat : ByteArray := prog_3_method_6_code
def y_Conversions_fromFloat : MethodName := ⟨"BitArithmetic$Conversions", "fromFloat", "(LBitArithmetic$Form;JLBitArithmetic$Form;)J"⟩
theorem d_Conversions_fromFloat_0 : decode b_Conversions_fromFloat 0 = .ok (.aload_n 0, 1) := by decide +kernel
theorem d_Conversions_fromFloat_1 : decode b_Conversions_fromFloat 1 = .ok (.lload_n 1, 1) := by decide +kernel
theorem d_Conversions_fromFloat_2 : decode b_Conversions_fromFloat 2 = .ok (.invokevirtual 50, 3) := by decide +kernel
theorem d_Conversions_fromFloat_5 : decode b_Conversions_fromFloat 5 = .ok (.ifCond .eq 8, 3) := by decide +kernel
theorem d_Conversions_fromFloat_8 : decode b_Conversions_fromFloat 8 = .ok (.aload_n 3, 1) := by decide +kernel
theorem d_Conversions_fromFloat_9 : decode b_Conversions_fromFloat 9 = .ok (.getfield 54, 3) := by decide +kernel
theorem d_Conversions_fromFloat_12 : decode b_Conversions_fromFloat 12 = .ok (.lreturn, 1) := by decide +kernel
theorem d_Conversions_fromFloat_13 : decode b_Conversions_fromFloat 13 = .ok (.aload_n 0, 1) := by decide +kernel
theorem d_Conversions_fromFloat_14 : decode b_Conversions_fromFloat 14 = .ok (.lload_n 1, 1) := by decide +kernel
theorem d_Conversions_fromFloat_15 : decode b_Conversions_fromFloat 15 = .ok (.invokevirtual 57, 3) := by decide +kernel
theorem d_Conversions_fromFloat_18 : decode b_Conversions_fromFloat 18 = .ok (.lconst 0, 1) := by decide +kernel
theorem d_Conversions_fromFloat_19 : decode b_Conversions_fromFloat 19 = .ok (.lcmp, 1) := by decide +kernel
theorem d_Conversions_fromFloat_20 : decode b_Conversions_fromFloat 20 = .ok (.ifCond .ne 7, 3) := by decide +kernel
theorem d_Conversions_fromFloat_23 : decode b_Conversions_fromFloat 23 = .ok (.lconst 0, 1) := by decide +kernel
theorem d_Conversions_fromFloat_24 : decode b_Conversions_fromFloat 24 = .ok (.goto 7, 3) := by decide +kernel
theorem d_Conversions_fromFloat_27 : decode b_Conversions_fromFloat 27 = .ok (.aload_n 3, 1) := by decide +kernel
theorem d_Conversions_fromFloat_28 : decode b_Conversions_fromFloat 28 = .ok (.getfield 42, 3) := by decide +kernel
theorem d_Conversions_fromFloat_31 : decode b_Conversions_fromFloat 31 = .ok (.lstore 4, 2) := by decide +kernel
theorem d_Conversions_fromFloat_33 : decode b_Conversions_fromFloat 33 = .ok (.aload_n 0, 1) := by decide +kernel
theorem d_Conversions_fromFloat_34 : decode b_Conversions_fromFloat 34 = .ok (.lload_n 1, 1) := by decide +kernel
theorem d_Conversions_fromFloat_35 : decode b_Conversions_fromFloat 35 = .ok (.invokevirtual 61, 3) := by decide +kernel
theorem d_Conversions_fromFloat_38 : decode b_Conversions_fromFloat 38 = .ok (.ifCond .eq 11, 3) := by decide +kernel
theorem d_Conversions_fromFloat_41 : decode b_Conversions_fromFloat 41 = .ok (.lload 4, 2) := by decide +kernel
theorem d_Conversions_fromFloat_43 : decode b_Conversions_fromFloat 43 = .ok (.aload_n 3, 1) := by decide +kernel
theorem d_Conversions_fromFloat_44 : decode b_Conversions_fromFloat 44 = .ok (.getfield 64, 3) := by decide +kernel
theorem d_Conversions_fromFloat_47 : decode b_Conversions_fromFloat 47 = .ok (.lor, 1) := by decide +kernel
theorem d_Conversions_fromFloat_48 : decode b_Conversions_fromFloat 48 = .ok (.lreturn, 1) := by decide +kernel
theorem d_Conversions_fromFloat_49 : decode b_Conversions_fromFloat 49 = .ok (.aload_n 0, 1) := by decide +kernel
theorem d_Conversions_fromFloat_50 : decode b_Conversions_fromFloat 50 = .ok (.lload_n 1, 1) := by decide +kernel
theorem d_Conversions_fromFloat_51 : decode b_Conversions_fromFloat 51 = .ok (.invokevirtual 67, 3) := by decide +kernel
theorem d_Conversions_fromFloat_54 : decode b_Conversions_fromFloat 54 = .ok (.ifCond .eq 6, 3) := by decide +kernel
theorem d_Conversions_fromFloat_57 : decode b_Conversions_fromFloat 57 = .ok (.lload 4, 2) := by decide +kernel
theorem d_Conversions_fromFloat_59 : decode b_Conversions_fromFloat 59 = .ok (.lreturn, 1) := by decide +kernel
theorem d_Conversions_fromFloat_60 : decode b_Conversions_fromFloat 60 = .ok (.aload_n 3, 1) := by decide +kernel
theorem d_Conversions_fromFloat_61 : decode b_Conversions_fromFloat 61 = .ok (.lload 4, 2) := by decide +kernel
theorem d_Conversions_fromFloat_63 : decode b_Conversions_fromFloat 63 = .ok (.aload_n 0, 1) := by decide +kernel
theorem d_Conversions_fromFloat_64 : decode b_Conversions_fromFloat 64 = .ok (.lload_n 1, 1) := by decide +kernel
theorem d_Conversions_fromFloat_65 : decode b_Conversions_fromFloat 65 = .ok (.invokevirtual 70, 3) := by decide +kernel
theorem d_Conversions_fromFloat_68 : decode b_Conversions_fromFloat 68 = .ok (.aload_n 0, 1) := by decide +kernel
theorem d_Conversions_fromFloat_69 : decode b_Conversions_fromFloat 69 = .ok (.lload_n 1, 1) := by decide +kernel
theorem d_Conversions_fromFloat_70 : decode b_Conversions_fromFloat 70 = .ok (.invokevirtual 73, 3) := by decide +kernel
theorem d_Conversions_fromFloat_73 : decode b_Conversions_fromFloat 73 = .ok (.invokevirtual 46, 3) := by decide +kernel
theorem d_Conversions_fromFloat_76 : decode b_Conversions_fromFloat 76 = .ok (.lreturn, 1) := by decide +kernel
abbrev b_Conversions_toFloat : ByteArray := prog_3_method_3_code
def y_Conversions_toFloat : MethodName := ⟨"BitArithmetic$Conversions", "toFloat", "(IJ)J"⟩
theorem d_Conversions_toFloat_0 : decode b_Conversions_toFloat 0 = .ok (.iload_n 0, 1) := by decide +kernel
theorem d_Conversions_toFloat_1 : decode b_Conversions_toFloat 1 = .ok (.tableswitch 146 178 186 #[51, 64, 77, 85, 93, 104, 117, 130, 138], 51) := by decide +kernel
theorem d_Conversions_toFloat_52 : decode b_Conversions_toFloat 52 = .ok (.getstatic 7, 3) := by decide +kernel
theorem d_Conversions_toFloat_55 : decode b_Conversions_toFloat 55 = .ok (.bipush 32, 2) := by decide +kernel
theorem d_Conversions_toFloat_57 : decode b_Conversions_toFloat 57 = .ok (.lload_n 1, 1) := by decide +kernel
theorem d_Conversions_toFloat_58 : decode b_Conversions_toFloat 58 = .ok (.invokestatic 22, 3) := by decide +kernel
theorem d_Conversions_toFloat_61 : decode b_Conversions_toFloat 61 = .ok (.invokestatic 31, 3) := by decide +kernel
theorem d_Conversions_toFloat_64 : decode b_Conversions_toFloat 64 = .ok (.lreturn, 1) := by decide +kernel
theorem d_Conversions_toFloat_65 : decode b_Conversions_toFloat 65 = .ok (.getstatic 7, 3) := by decide +kernel
theorem d_Conversions_toFloat_68 : decode b_Conversions_toFloat 68 = .ok (.bipush 32, 2) := by decide +kernel
theorem d_Conversions_toFloat_70 : decode b_Conversions_toFloat 70 = .ok (.lload_n 1, 1) := by decide +kernel
theorem d_Conversions_toFloat_71 : decode b_Conversions_toFloat 71 = .ok (.invokestatic 28, 3) := by decide +kernel
theorem d_Conversions_toFloat_74 : decode b_Conversions_toFloat 74 = .ok (.invokestatic 35, 3) := by decide +kernel
theorem d_Conversions_toFloat_77 : decode b_Conversions_toFloat 77 = .ok (.lreturn, 1) := by decide +kernel
theorem d_Conversions_toFloat_78 : decode b_Conversions_toFloat 78 = .ok (.getstatic 7, 3) := by decide +kernel
theorem d_Conversions_toFloat_81 : decode b_Conversions_toFloat 81 = .ok (.lload_n 1, 1) := by decide +kernel
theorem d_Conversions_toFloat_82 : decode b_Conversions_toFloat 82 = .ok (.invokestatic 31, 3) := by decide +kernel
theorem d_Conversions_toFloat_85 : decode b_Conversions_toFloat 85 = .ok (.lreturn, 1) := by decide +kernel
theorem d_Conversions_toFloat_86 : decode b_Conversions_toFloat 86 = .ok (.getstatic 7, 3) := by decide +kernel
theorem d_Conversions_toFloat_89 : decode b_Conversions_toFloat 89 = .ok (.lload_n 1, 1) := by decide +kernel
theorem d_Conversions_toFloat_90 : decode b_Conversions_toFloat 90 = .ok (.invokestatic 35, 3) := by decide +kernel
theorem d_Conversions_toFloat_93 : decode b_Conversions_toFloat 93 = .ok (.lreturn, 1) := by decide +kernel
theorem d_Conversions_toFloat_94 : decode b_Conversions_toFloat 94 = .ok (.getstatic 19, 3) := by decide +kernel
theorem d_Conversions_toFloat_97 : decode b_Conversions_toFloat 97 = .ok (.lload_n 1, 1) := by decide +kernel
theorem d_Conversions_toFloat_98 : decode b_Conversions_toFloat 98 = .ok (.getstatic 7, 3) := by decide +kernel
theorem d_Conversions_toFloat_101 : decode b_Conversions_toFloat 101 = .ok (.invokestatic 38, 3) := by decide +kernel
theorem d_Conversions_toFloat_104 : decode b_Conversions_toFloat 104 = .ok (.lreturn, 1) := by decide +kernel
theorem d_Conversions_toFloat_105 : decode b_Conversions_toFloat 105 = .ok (.getstatic 19, 3) := by decide +kernel
theorem d_Conversions_toFloat_108 : decode b_Conversions_toFloat 108 = .ok (.bipush 32, 2) := by decide +kernel
theorem d_Conversions_toFloat_110 : decode b_Conversions_toFloat 110 = .ok (.lload_n 1, 1) := by decide +kernel
theorem d_Conversions_toFloat_111 : decode b_Conversions_toFloat 111 = .ok (.invokestatic 22, 3) := by decide +kernel
theorem d_Conversions_toFloat_114 : decode b_Conversions_toFloat 114 = .ok (.invokestatic 31, 3) := by decide +kernel
theorem d_Conversions_toFloat_117 : decode b_Conversions_toFloat 117 = .ok (.lreturn, 1) := by decide +kernel
theorem d_Conversions_toFloat_118 : decode b_Conversions_toFloat 118 = .ok (.getstatic 19, 3) := by decide +kernel
theorem d_Conversions_toFloat_121 : decode b_Conversions_toFloat 121 = .ok (.bipush 32, 2) := by decide +kernel
theorem d_Conversions_toFloat_123 : decode b_Conversions_toFloat 123 = .ok (.lload_n 1, 1) := by decide +kernel
theorem d_Conversions_toFloat_124 : decode b_Conversions_toFloat 124 = .ok (.invokestatic 28, 3) := by decide +kernel
theorem d_Conversions_toFloat_127 : decode b_Conversions_toFloat 127 = .ok (.invokestatic 35, 3) := by decide +kernel
theorem d_Conversions_toFloat_130 : decode b_Conversions_toFloat 130 = .ok (.lreturn, 1) := by decide +kernel
theorem d_Conversions_toFloat_131 : decode b_Conversions_toFloat 131 = .ok (.getstatic 19, 3) := by decide +kernel
theorem d_Conversions_toFloat_134 : decode b_Conversions_toFloat 134 = .ok (.lload_n 1, 1) := by decide +kernel
theorem d_Conversions_toFloat_135 : decode b_Conversions_toFloat 135 = .ok (.invokestatic 31, 3) := by decide +kernel
theorem d_Conversions_toFloat_138 : decode b_Conversions_toFloat 138 = .ok (.lreturn, 1) := by decide +kernel
theorem d_Conversions_toFloat_139 : decode b_Conversions_toFloat 139 = .ok (.getstatic 19, 3) := by decide +kernel
theorem d_Conversions_toFloat_142 : decode b_Conversions_toFloat 142 = .ok (.lload_n 1, 1) := by decide +kernel
theorem d_Conversions_toFloat_143 : decode b_Conversions_toFloat 143 = .ok (.invokestatic 35, 3) := by decide +kernel
theorem d_Conversions_toFloat_146 : decode b_Conversions_toFloat 146 = .ok (.lreturn, 1) := by decide +kernel
theorem d_Conversions_toFloat_147 : decode b_Conversions_toFloat 147 = .ok (.getstatic 7, 3) := by decide +kernel
theorem d_Conversions_toFloat_150 : decode b_Conversions_toFloat 150 = .ok (.bipush 32, 2) := by decide +kernel
theorem d_Conversions_toFloat_152 : decode b_Conversions_toFloat 152 = .ok (.lload_n 1, 1) := by decide +kernel
theorem d_Conversions_toFloat_153 : decode b_Conversions_toFloat 153 = .ok (.invokestatic 28, 3) := by decide +kernel
theorem d_Conversions_toFloat_156 : decode b_Conversions_toFloat 156 = .ok (.getstatic 19, 3) := by decide +kernel
theorem d_Conversions_toFloat_159 : decode b_Conversions_toFloat 159 = .ok (.invokestatic 38, 3) := by decide +kernel
theorem d_Conversions_toFloat_162 : decode b_Conversions_toFloat 162 = .ok (.lreturn, 1) := by decide +kernel
abbrev b_Conversions_cutAmount : ByteArray := prog_3_method_8_code
def y_Conversions_cutAmount : MethodName := ⟨"BitArithmetic$Conversions", "cutAmount", "(LBitArithmetic$Form;J)J"⟩
theorem d_Conversions_cutAmount_0 : decode b_Conversions_cutAmount 0 = .ok (.aload_n 0, 1) := by decide +kernel
theorem d_Conversions_cutAmount_1 : decode b_Conversions_cutAmount 1 = .ok (.lload_n 1, 1) := by decide +kernel
theorem d_Conversions_cutAmount_2 : decode b_Conversions_cutAmount 2 = .ok (.invokevirtual 73, 3) := by decide +kernel
theorem d_Conversions_cutAmount_5 : decode b_Conversions_cutAmount 5 = .ok (.istore_n 3, 1) := by decide +kernel
theorem d_Conversions_cutAmount_6 : decode b_Conversions_cutAmount 6 = .ok (.iload_n 3, 1) := by decide +kernel
theorem d_Conversions_cutAmount_7 : decode b_Conversions_cutAmount 7 = .ok (.bipush (-64), 2) := by decide +kernel
theorem d_Conversions_cutAmount_9 : decode b_Conversions_cutAmount 9 = .ok (.if_icmp .gt 5, 3) := by decide +kernel
theorem d_Conversions_cutAmount_12 : decode b_Conversions_cutAmount 12 = .ok (.lconst 0, 1) := by decide +kernel
theorem d_Conversions_cutAmount_13 : decode b_Conversions_cutAmount 13 = .ok (.lreturn, 1) := by decide +kernel
theorem d_Conversions_cutAmount_14 : decode b_Conversions_cutAmount 14 = .ok (.aload_n 0, 1) := by decide +kernel
theorem d_Conversions_cutAmount_15 : decode b_Conversions_cutAmount 15 = .ok (.lload_n 1, 1) := by decide +kernel
theorem d_Conversions_cutAmount_16 : decode b_Conversions_cutAmount 16 = .ok (.invokevirtual 70, 3) := by decide +kernel
theorem d_Conversions_cutAmount_19 : decode b_Conversions_cutAmount 19 = .ok (.lstore 4, 2) := by decide +kernel
theorem d_Conversions_cutAmount_21 : decode b_Conversions_cutAmount 21 = .ok (.iload_n 3, 1) := by decide +kernel
theorem d_Conversions_cutAmount_22 : decode b_Conversions_cutAmount 22 = .ok (.ifCond .lt 10, 3) := by decide +kernel
theorem d_Conversions_cutAmount_25 : decode b_Conversions_cutAmount 25 = .ok (.lload 4, 2) := by decide +kernel
theorem d_Conversions_cutAmount_27 : decode b_Conversions_cutAmount 27 = .ok (.iload_n 3, 1) := by decide +kernel
theorem d_Conversions_cutAmount_28 : decode b_Conversions_cutAmount 28 = .ok (.lshl, 1) := by decide +kernel
theorem d_Conversions_cutAmount_29 : decode b_Conversions_cutAmount 29 = .ok (.goto 8, 3) := by decide +kernel
theorem d_Conversions_cutAmount_32 : decode b_Conversions_cutAmount 32 = .ok (.lload 4, 2) := by decide +kernel
theorem d_Conversions_cutAmount_34 : decode b_Conversions_cutAmount 34 = .ok (.iload_n 3, 1) := by decide +kernel
theorem d_Conversions_cutAmount_35 : decode b_Conversions_cutAmount 35 = .ok (.ineg, 1) := by decide +kernel
theorem d_Conversions_cutAmount_36 : decode b_Conversions_cutAmount 36 = .ok (.lushr, 1) := by decide +kernel
theorem d_Conversions_cutAmount_37 : decode b_Conversions_cutAmount 37 = .ok (.lreturn, 1) := by decide +kernel
abbrev b_Conversions_greatest : ByteArray := prog_3_method_9_code
def y_Conversions_greatest : MethodName := ⟨"BitArithmetic$Conversions", "greatest", "(ZIZ)J"⟩
theorem d_Conversions_greatest_0 : decode b_Conversions_greatest 0 = .ok (.lconst 1, 1) := by decide +kernel
theorem d_Conversions_greatest_1 : decode b_Conversions_greatest 1 = .ok (.iload_n 1, 1) := by decide +kernel
theorem d_Conversions_greatest_2 : decode b_Conversions_greatest 2 = .ok (.iconst 1, 1) := by decide +kernel
theorem d_Conversions_greatest_3 : decode b_Conversions_greatest 3 = .ok (.isub, 1) := by decide +kernel
theorem d_Conversions_greatest_4 : decode b_Conversions_greatest 4 = .ok (.lshl, 1) := by decide +kernel
theorem d_Conversions_greatest_5 : decode b_Conversions_greatest 5 = .ok (.lstore_n 3, 1) := by decide +kernel
theorem d_Conversions_greatest_6 : decode b_Conversions_greatest 6 = .ok (.iload_n 2, 1) := by decide +kernel
theorem d_Conversions_greatest_7 : decode b_Conversions_greatest 7 = .ok (.ifCond .eq 15, 3) := by decide +kernel
theorem d_Conversions_greatest_10 : decode b_Conversions_greatest 10 = .ok (.iload_n 0, 1) := by decide +kernel
theorem d_Conversions_greatest_11 : decode b_Conversions_greatest 11 = .ok (.ifCond .eq 7, 3) := by decide +kernel
theorem d_Conversions_greatest_14 : decode b_Conversions_greatest 14 = .ok (.lload_n 3, 1) := by decide +kernel
theorem d_Conversions_greatest_15 : decode b_Conversions_greatest 15 = .ok (.goto 6, 3) := by decide +kernel
theorem d_Conversions_greatest_18 : decode b_Conversions_greatest 18 = .ok (.lload_n 3, 1) := by decide +kernel
theorem d_Conversions_greatest_19 : decode b_Conversions_greatest 19 = .ok (.lconst 1, 1) := by decide +kernel
theorem d_Conversions_greatest_20 : decode b_Conversions_greatest 20 = .ok (.lsub, 1) := by decide +kernel
theorem d_Conversions_greatest_21 : decode b_Conversions_greatest 21 = .ok (.lreturn, 1) := by decide +kernel
theorem d_Conversions_greatest_22 : decode b_Conversions_greatest 22 = .ok (.iload_n 0, 1) := by decide +kernel
theorem d_Conversions_greatest_23 : decode b_Conversions_greatest 23 = .ok (.ifCond .eq 7, 3) := by decide +kernel
theorem d_Conversions_greatest_26 : decode b_Conversions_greatest 26 = .ok (.lconst 0, 1) := by decide +kernel
theorem d_Conversions_greatest_27 : decode b_Conversions_greatest 27 = .ok (.goto 10, 3) := by decide +kernel
theorem d_Conversions_greatest_30 : decode b_Conversions_greatest 30 = .ok (.iload_n 1, 1) := by decide +kernel
theorem d_Conversions_greatest_31 : decode b_Conversions_greatest 31 = .ok (.ldc2_w 112, 3) := by decide +kernel
theorem d_Conversions_greatest_34 : decode b_Conversions_greatest 34 = .ok (.invokestatic 28, 3) := by decide +kernel
theorem d_Conversions_greatest_37 : decode b_Conversions_greatest 37 = .ok (.lreturn, 1) := by decide +kernel
abbrev b_Floats_longDivision : ByteArray := prog_4_method_10_code
def y_Floats_longDivision : MethodName := ⟨"BitArithmetic$Floats", "longDivision", "(JJ)J"⟩
theorem d_Floats_longDivision_0 : decode b_Floats_longDivision 0 = .ok (.lconst 0, 1) := by decide +kernel
theorem d_Floats_longDivision_1 : decode b_Floats_longDivision 1 = .ok (.lstore 4, 2) := by decide +kernel
theorem d_Floats_longDivision_3 : decode b_Floats_longDivision 3 = .ok (.lload_n 0, 1) := by decide +kernel
theorem d_Floats_longDivision_4 : decode b_Floats_longDivision 4 = .ok (.lstore 6, 2) := by decide +kernel
theorem d_Floats_longDivision_6 : decode b_Floats_longDivision 6 = .ok (.iconst 0, 1) := by decide +kernel
theorem d_Floats_longDivision_7 : decode b_Floats_longDivision 7 = .ok (.istore 8, 2) := by decide +kernel
theorem d_Floats_longDivision_9 : decode b_Floats_longDivision 9 = .ok (.iload 8, 2) := by decide +kernel
theorem d_Floats_longDivision_11 : decode b_Floats_longDivision 11 = .ok (.bipush 60, 2) := by decide +kernel
theorem d_Floats_longDivision_13 : decode b_Floats_longDivision 13 = .ok (.if_icmp .ge 40, 3) := by decide +kernel
theorem d_Floats_longDivision_16 : decode b_Floats_longDivision 16 = .ok (.lload 4, 2) := by decide +kernel
theorem d_Floats_longDivision_18 : decode b_Floats_longDivision 18 = .ok (.iconst 1, 1) := by decide +kernel
theorem d_Floats_longDivision_19 : decode b_Floats_longDivision 19 = .ok (.lshl, 1) := by decide +kernel
theorem d_Floats_longDivision_20 : decode b_Floats_longDivision 20 = .ok (.lstore 4, 2) := by decide +kernel
theorem d_Floats_longDivision_22 : decode b_Floats_longDivision 22 = .ok (.lload 6, 2) := by decide +kernel
theorem d_Floats_longDivision_24 : decode b_Floats_longDivision 24 = .ok (.lload_n 2, 1) := by decide +kernel
theorem d_Floats_longDivision_25 : decode b_Floats_longDivision 25 = .ok (.lcmp, 1) := by decide +kernel
theorem d_Floats_longDivision_26 : decode b_Floats_longDivision 26 = .ok (.ifCond .lt 15, 3) := by decide +kernel
theorem d_Floats_longDivision_29 : decode b_Floats_longDivision 29 = .ok (.lload 6, 2) := by decide +kernel
theorem d_Floats_longDivision_31 : decode b_Floats_longDivision 31 = .ok (.lload_n 2, 1) := by decide +kernel
theorem d_Floats_longDivision_32 : decode b_Floats_longDivision 32 = .ok (.lsub, 1) := by decide +kernel
theorem d_Floats_longDivision_33 : decode b_Floats_longDivision 33 = .ok (.lstore 6, 2) := by decide +kernel
theorem d_Floats_longDivision_35 : decode b_Floats_longDivision 35 = .ok (.lload 4, 2) := by decide +kernel
theorem d_Floats_longDivision_37 : decode b_Floats_longDivision 37 = .ok (.lconst 1, 1) := by decide +kernel
theorem d_Floats_longDivision_38 : decode b_Floats_longDivision 38 = .ok (.lor, 1) := by decide +kernel
theorem d_Floats_longDivision_39 : decode b_Floats_longDivision 39 = .ok (.lstore 4, 2) := by decide +kernel
theorem d_Floats_longDivision_41 : decode b_Floats_longDivision 41 = .ok (.lload 6, 2) := by decide +kernel
theorem d_Floats_longDivision_43 : decode b_Floats_longDivision 43 = .ok (.iconst 1, 1) := by decide +kernel
theorem d_Floats_longDivision_44 : decode b_Floats_longDivision 44 = .ok (.lshl, 1) := by decide +kernel
theorem d_Floats_longDivision_45 : decode b_Floats_longDivision 45 = .ok (.lstore 6, 2) := by decide +kernel
theorem d_Floats_longDivision_47 : decode b_Floats_longDivision 47 = .ok (.iinc 8 1, 3) := by decide +kernel
theorem d_Floats_longDivision_50 : decode b_Floats_longDivision 50 = .ok (.goto (-41), 3) := by decide +kernel
theorem d_Floats_longDivision_53 : decode b_Floats_longDivision 53 = .ok (.lload 4, 2) := by decide +kernel
theorem d_Floats_longDivision_55 : decode b_Floats_longDivision 55 = .ok (.lload 6, 2) := by decide +kernel
theorem d_Floats_longDivision_57 : decode b_Floats_longDivision 57 = .ok (.invokestatic 94, 3) := by decide +kernel
theorem d_Floats_longDivision_60 : decode b_Floats_longDivision 60 = .ok (.lreturn, 1) := by decide +kernel
abbrev b_Floats_longRoot : ByteArray := prog_4_method_14_code
def y_Floats_longRoot : MethodName := ⟨"BitArithmetic$Floats", "longRoot", "(J)J"⟩
theorem d_Floats_longRoot_0 : decode b_Floats_longRoot 0 = .ok (.lconst 0, 1) := by decide +kernel
theorem d_Floats_longRoot_1 : decode b_Floats_longRoot 1 = .ok (.lstore_n 2, 1) := by decide +kernel
theorem d_Floats_longRoot_2 : decode b_Floats_longRoot 2 = .ok (.lconst 0, 1) := by decide +kernel
theorem d_Floats_longRoot_3 : decode b_Floats_longRoot 3 = .ok (.lstore 4, 2) := by decide +kernel
theorem d_Floats_longRoot_5 : decode b_Floats_longRoot 5 = .ok (.lload_n 0, 1) := by decide +kernel
theorem d_Floats_longRoot_6 : decode b_Floats_longRoot 6 = .ok (.lstore 6, 2) := by decide +kernel
theorem d_Floats_longRoot_8 : decode b_Floats_longRoot 8 = .ok (.iconst 0, 1) := by decide +kernel
theorem d_Floats_longRoot_9 : decode b_Floats_longRoot 9 = .ok (.istore 8, 2) := by decide +kernel
theorem d_Floats_longRoot_11 : decode b_Floats_longRoot 11 = .ok (.iload 8, 2) := by decide +kernel
theorem d_Floats_longRoot_13 : decode b_Floats_longRoot 13 = .ok (.bipush 56, 2) := by decide +kernel
theorem d_Floats_longRoot_15 : decode b_Floats_longRoot 15 = .ok (.if_icmp .ge 57, 3) := by decide +kernel
theorem d_Floats_longRoot_18 : decode b_Floats_longRoot 18 = .ok (.lload 4, 2) := by decide +kernel
theorem d_Floats_longRoot_20 : decode b_Floats_longRoot 20 = .ok (.iconst 2, 1) := by decide +kernel
theorem d_Floats_longRoot_21 : decode b_Floats_longRoot 21 = .ok (.lshl, 1) := by decide +kernel
theorem d_Floats_longRoot_22 : decode b_Floats_longRoot 22 = .ok (.lload 6, 2) := by decide +kernel
theorem d_Floats_longRoot_24 : decode b_Floats_longRoot 24 = .ok (.bipush 62, 2) := by decide +kernel
theorem d_Floats_longRoot_26 : decode b_Floats_longRoot 26 = .ok (.lushr, 1) := by decide +kernel
theorem d_Floats_longRoot_27 : decode b_Floats_longRoot 27 = .ok (.lor, 1) := by decide +kernel
theorem d_Floats_longRoot_28 : decode b_Floats_longRoot 28 = .ok (.lstore 4, 2) := by decide +kernel
theorem d_Floats_longRoot_30 : decode b_Floats_longRoot 30 = .ok (.lload 6, 2) := by decide +kernel
theorem d_Floats_longRoot_32 : decode b_Floats_longRoot 32 = .ok (.iconst 2, 1) := by decide +kernel
theorem d_Floats_longRoot_33 : decode b_Floats_longRoot 33 = .ok (.lshl, 1) := by decide +kernel
theorem d_Floats_longRoot_34 : decode b_Floats_longRoot 34 = .ok (.lstore 6, 2) := by decide +kernel
theorem d_Floats_longRoot_36 : decode b_Floats_longRoot 36 = .ok (.lload_n 2, 1) := by decide +kernel
theorem d_Floats_longRoot_37 : decode b_Floats_longRoot 37 = .ok (.iconst 2, 1) := by decide +kernel
theorem d_Floats_longRoot_38 : decode b_Floats_longRoot 38 = .ok (.lshl, 1) := by decide +kernel
theorem d_Floats_longRoot_39 : decode b_Floats_longRoot 39 = .ok (.lconst 1, 1) := by decide +kernel
theorem d_Floats_longRoot_40 : decode b_Floats_longRoot 40 = .ok (.lor, 1) := by decide +kernel
theorem d_Floats_longRoot_41 : decode b_Floats_longRoot 41 = .ok (.lstore 9, 2) := by decide +kernel
theorem d_Floats_longRoot_43 : decode b_Floats_longRoot 43 = .ok (.lload_n 2, 1) := by decide +kernel
theorem d_Floats_longRoot_44 : decode b_Floats_longRoot 44 = .ok (.iconst 1, 1) := by decide +kernel
theorem d_Floats_longRoot_45 : decode b_Floats_longRoot 45 = .ok (.lshl, 1) := by decide +kernel
theorem d_Floats_longRoot_46 : decode b_Floats_longRoot 46 = .ok (.lstore_n 2, 1) := by decide +kernel
theorem d_Floats_longRoot_47 : decode b_Floats_longRoot 47 = .ok (.lload 4, 2) := by decide +kernel
theorem d_Floats_longRoot_49 : decode b_Floats_longRoot 49 = .ok (.lload 9, 2) := by decide +kernel
theorem d_Floats_longRoot_51 : decode b_Floats_longRoot 51 = .ok (.lcmp, 1) := by decide +kernel
theorem d_Floats_longRoot_52 : decode b_Floats_longRoot 52 = .ok (.ifCond .lt 14, 3) := by decide +kernel
theorem d_Floats_longRoot_55 : decode b_Floats_longRoot 55 = .ok (.lload 4, 2) := by decide +kernel
theorem d_Floats_longRoot_57 : decode b_Floats_longRoot 57 = .ok (.lload 9, 2) := by decide +kernel
theorem d_Floats_longRoot_59 : decode b_Floats_longRoot 59 = .ok (.lsub, 1) := by decide +kernel
theorem d_Floats_longRoot_60 : decode b_Floats_longRoot 60 = .ok (.lstore 4, 2) := by decide +kernel
theorem d_Floats_longRoot_62 : decode b_Floats_longRoot 62 = .ok (.lload_n 2, 1) := by decide +kernel
theorem d_Floats_longRoot_63 : decode b_Floats_longRoot 63 = .ok (.lconst 1, 1) := by decide +kernel
theorem d_Floats_longRoot_64 : decode b_Floats_longRoot 64 = .ok (.lor, 1) := by decide +kernel
theorem d_Floats_longRoot_65 : decode b_Floats_longRoot 65 = .ok (.lstore_n 2, 1) := by decide +kernel
theorem d_Floats_longRoot_66 : decode b_Floats_longRoot 66 = .ok (.iinc 8 1, 3) := by decide +kernel
theorem d_Floats_longRoot_69 : decode b_Floats_longRoot 69 = .ok (.goto (-58), 3) := by decide +kernel
theorem d_Floats_longRoot_72 : decode b_Floats_longRoot 72 = .ok (.lload_n 2, 1) := by decide +kernel
theorem d_Floats_longRoot_73 : decode b_Floats_longRoot 73 = .ok (.lload 4, 2) := by decide +kernel
theorem d_Floats_longRoot_75 : decode b_Floats_longRoot 75 = .ok (.invokestatic 94, 3) := by decide +kernel
theorem d_Floats_longRoot_78 : decode b_Floats_longRoot 78 = .ok (.lreturn, 1) := by decide +kernel
abbrev b_Floats_quotient : ByteArray := prog_4_method_9_code
def y_Floats_quotient : MethodName := ⟨"BitArithmetic$Floats", "quotient", "(LBitArithmetic$Form;JJ)J"⟩
theorem d_Floats_quotient_0 : decode b_Floats_quotient 0 = .ok (.aload_n 0, 1) := by decide +kernel
theorem d_Floats_quotient_1 : decode b_Floats_quotient 1 = .ok (.lload_n 1, 1) := by decide +kernel
theorem d_Floats_quotient_2 : decode b_Floats_quotient 2 = .ok (.lload_n 3, 1) := by decide +kernel
theorem d_Floats_quotient_3 : decode b_Floats_quotient 3 = .ok (.lxor, 1) := by decide +kernel
theorem d_Floats_quotient_4 : decode b_Floats_quotient 4 = .ok (.invokevirtual 19, 3) := by decide +kernel
theorem d_Floats_quotient_7 : decode b_Floats_quotient 7 = .ok (.lstore 5, 2) := by decide +kernel
theorem d_Floats_quotient_9 : decode b_Floats_quotient 9 = .ok (.aload_n 0, 1) := by decide +kernel
theorem d_Floats_quotient_10 : decode b_Floats_quotient 10 = .ok (.lload_n 1, 1) := by decide +kernel
theorem d_Floats_quotient_11 : decode b_Floats_quotient 11 = .ok (.invokevirtual 56, 3) := by decide +kernel
theorem d_Floats_quotient_14 : decode b_Floats_quotient 14 = .ok (.ifCond .eq 15, 3) := by decide +kernel
theorem d_Floats_quotient_17 : decode b_Floats_quotient 17 = .ok (.aload_n 0, 1) := by decide +kernel
theorem d_Floats_quotient_18 : decode b_Floats_quotient 18 = .ok (.lload_n 3, 1) := by decide +kernel
theorem d_Floats_quotient_19 : decode b_Floats_quotient 19 = .ok (.invokevirtual 56, 3) := by decide +kernel
theorem d_Floats_quotient_22 : decode b_Floats_quotient 22 = .ok (.ifCond .eq 7, 3) := by decide +kernel
theorem d_Floats_quotient_25 : decode b_Floats_quotient 25 = .ok (.iconst 1, 1) := by decide +kernel
theorem d_Floats_quotient_26 : decode b_Floats_quotient 26 = .ok (.goto 4, 3) := by decide +kernel
theorem d_Floats_quotient_29 : decode b_Floats_quotient 29 = .ok (.iconst 0, 1) := by decide +kernel
theorem d_Floats_quotient_30 : decode b_Floats_quotient 30 = .ok (.istore 7, 2) := by decide +kernel
theorem d_Floats_quotient_32 : decode b_Floats_quotient 32 = .ok (.aload_n 0, 1) := by decide +kernel
theorem d_Floats_quotient_33 : decode b_Floats_quotient 33 = .ok (.lload_n 1, 1) := by decide +kernel
theorem d_Floats_quotient_34 : decode b_Floats_quotient 34 = .ok (.invokevirtual 59, 3) := by decide +kernel
theorem d_Floats_quotient_37 : decode b_Floats_quotient 37 = .ok (.ifCond .eq 15, 3) := by decide +kernel
theorem d_Floats_quotient_40 : decode b_Floats_quotient 40 = .ok (.aload_n 0, 1) := by decide +kernel
theorem d_Floats_quotient_41 : decode b_Floats_quotient 41 = .ok (.lload_n 3, 1) := by decide +kernel
theorem d_Floats_quotient_42 : decode b_Floats_quotient 42 = .ok (.invokevirtual 59, 3) := by decide +kernel
theorem d_Floats_quotient_45 : decode b_Floats_quotient 45 = .ok (.ifCond .eq 7, 3) := by decide +kernel
theorem d_Floats_quotient_48 : decode b_Floats_quotient 48 = .ok (.iconst 1, 1) := by decide +kernel
theorem d_Floats_quotient_49 : decode b_Floats_quotient 49 = .ok (.goto 4, 3) := by decide +kernel
theorem d_Floats_quotient_52 : decode b_Floats_quotient 52 = .ok (.iconst 0, 1) := by decide +kernel
theorem d_Floats_quotient_53 : decode b_Floats_quotient 53 = .ok (.istore 8, 2) := by decide +kernel
theorem d_Floats_quotient_55 : decode b_Floats_quotient 55 = .ok (.iload 7, 2) := by decide +kernel
theorem d_Floats_quotient_57 : decode b_Floats_quotient 57 = .ok (.ifCond .ne 8, 3) := by decide +kernel
theorem d_Floats_quotient_60 : decode b_Floats_quotient 60 = .ok (.iload 8, 2) := by decide +kernel
theorem d_Floats_quotient_62 : decode b_Floats_quotient 62 = .ok (.ifCond .eq 8, 3) := by decide +kernel
theorem d_Floats_quotient_65 : decode b_Floats_quotient 65 = .ok (.aload_n 0, 1) := by decide +kernel
theorem d_Floats_quotient_66 : decode b_Floats_quotient 66 = .ok (.getfield 30, 3) := by decide +kernel
theorem d_Floats_quotient_69 : decode b_Floats_quotient 69 = .ok (.lreturn, 1) := by decide +kernel
theorem d_Floats_quotient_70 : decode b_Floats_quotient 70 = .ok (.aload_n 0, 1) := by decide +kernel
theorem d_Floats_quotient_71 : decode b_Floats_quotient 71 = .ok (.lload_n 1, 1) := by decide +kernel
theorem d_Floats_quotient_72 : decode b_Floats_quotient 72 = .ok (.invokevirtual 59, 3) := by decide +kernel
theorem d_Floats_quotient_75 : decode b_Floats_quotient 75 = .ok (.ifCond .ne 11, 3) := by decide +kernel
theorem d_Floats_quotient_78 : decode b_Floats_quotient 78 = .ok (.aload_n 0, 1) := by decide +kernel
theorem d_Floats_quotient_79 : decode b_Floats_quotient 79 = .ok (.lload_n 3, 1) := by decide +kernel
theorem d_Floats_quotient_80 : decode b_Floats_quotient 80 = .ok (.invokevirtual 56, 3) := by decide +kernel
theorem d_Floats_quotient_83 : decode b_Floats_quotient 83 = .ok (.ifCond .eq 11, 3) := by decide +kernel
theorem d_Floats_quotient_86 : decode b_Floats_quotient 86 = .ok (.lload 5, 2) := by decide +kernel
theorem d_Floats_quotient_88 : decode b_Floats_quotient 88 = .ok (.aload_n 0, 1) := by decide +kernel
theorem d_Floats_quotient_89 : decode b_Floats_quotient 89 = .ok (.getfield 82, 3) := by decide +kernel
theorem d_Floats_quotient_92 : decode b_Floats_quotient 92 = .ok (.lor, 1) := by decide +kernel
theorem d_Floats_quotient_93 : decode b_Floats_quotient 93 = .ok (.lreturn, 1) := by decide +kernel
theorem d_Floats_quotient_94 : decode b_Floats_quotient 94 = .ok (.aload_n 0, 1) := by decide +kernel
theorem d_Floats_quotient_95 : decode b_Floats_quotient 95 = .ok (.lload_n 3, 1) := by decide +kernel
theorem d_Floats_quotient_96 : decode b_Floats_quotient 96 = .ok (.invokevirtual 59, 3) := by decide +kernel
theorem d_Floats_quotient_99 : decode b_Floats_quotient 99 = .ok (.ifCond .ne 11, 3) := by decide +kernel
theorem d_Floats_quotient_102 : decode b_Floats_quotient 102 = .ok (.aload_n 0, 1) := by decide +kernel
theorem d_Floats_quotient_103 : decode b_Floats_quotient 103 = .ok (.lload_n 1, 1) := by decide +kernel
theorem d_Floats_quotient_104 : decode b_Floats_quotient 104 = .ok (.invokevirtual 56, 3) := by decide +kernel
theorem d_Floats_quotient_107 : decode b_Floats_quotient 107 = .ok (.ifCond .eq 6, 3) := by decide +kernel
theorem d_Floats_quotient_110 : decode b_Floats_quotient 110 = .ok (.lload 5, 2) := by decide +kernel
theorem d_Floats_quotient_112 : decode b_Floats_quotient 112 = .ok (.lreturn, 1) := by decide +kernel
theorem d_Floats_quotient_113 : decode b_Floats_quotient 113 = .ok (.aload_n 0, 1) := by decide +kernel
theorem d_Floats_quotient_114 : decode b_Floats_quotient 114 = .ok (.lload_n 1, 1) := by decide +kernel
theorem d_Floats_quotient_115 : decode b_Floats_quotient 115 = .ok (.invokestatic 97, 3) := by decide +kernel
theorem d_Floats_quotient_118 : decode b_Floats_quotient 118 = .ok (.aload_n 0, 1) := by decide +kernel
theorem d_Floats_quotient_119 : decode b_Floats_quotient 119 = .ok (.lload_n 3, 1) := by decide +kernel
theorem d_Floats_quotient_120 : decode b_Floats_quotient 120 = .ok (.invokestatic 97, 3) := by decide +kernel
theorem d_Floats_quotient_123 : decode b_Floats_quotient 123 = .ok (.isub, 1) := by decide +kernel
theorem d_Floats_quotient_124 : decode b_Floats_quotient 124 = .ok (.bipush 59, 2) := by decide +kernel
theorem d_Floats_quotient_126 : decode b_Floats_quotient 126 = .ok (.isub, 1) := by decide +kernel
theorem d_Floats_quotient_127 : decode b_Floats_quotient 127 = .ok (.istore 9, 2) := by decide +kernel
theorem d_Floats_quotient_129 : decode b_Floats_quotient 129 = .ok (.aload_n 0, 1) := by decide +kernel
theorem d_Floats_quotient_130 : decode b_Floats_quotient 130 = .ok (.lload 5, 2) := by decide +kernel
theorem d_Floats_quotient_132 : decode b_Floats_quotient 132 = .ok (.aload_n 0, 1) := by decide +kernel
theorem d_Floats_quotient_133 : decode b_Floats_quotient 133 = .ok (.lload_n 1, 1) := by decide +kernel
theorem d_Floats_quotient_134 : decode b_Floats_quotient 134 = .ok (.invokestatic 85, 3) := by decide +kernel
theorem d_Floats_quotient_137 : decode b_Floats_quotient 137 = .ok (.aload_n 0, 1) := by decide +kernel
theorem d_Floats_quotient_138 : decode b_Floats_quotient 138 = .ok (.lload_n 3, 1) := by decide +kernel
theorem d_Floats_quotient_139 : decode b_Floats_quotient 139 = .ok (.invokestatic 85, 3) := by decide +kernel
theorem d_Floats_quotient_142 : decode b_Floats_quotient 142 = .ok (.invokestatic 101, 3) := by decide +kernel
theorem d_Floats_quotient_145 : decode b_Floats_quotient 145 = .ok (.iload 9, 2) := by decide +kernel
theorem d_Floats_quotient_147 : decode b_Floats_quotient 147 = .ok (.invokevirtual 78, 3) := by decide +kernel
theorem d_Floats_quotient_150 : decode b_Floats_quotient 150 = .ok (.lreturn, 1) := by decide +kernel
abbrev b_Floats_root : ByteArray := prog_4_method_13_code
def y_Floats_root : MethodName := ⟨"BitArithmetic$Floats", "root", "(LBitArithmetic$Form;J)J"⟩
theorem d_Floats_root_0 : decode b_Floats_root 0 = .ok (.aload_n 0, 1) := by decide +kernel
theorem d_Floats_root_1 : decode b_Floats_root 1 = .ok (.lload_n 1, 1) := by decide +kernel
theorem d_Floats_root_2 : decode b_Floats_root 2 = .ok (.invokevirtual 56, 3) := by decide +kernel
theorem d_Floats_root_5 : decode b_Floats_root 5 = .ok (.ifCond .eq 5, 3) := by decide +kernel
theorem d_Floats_root_8 : decode b_Floats_root 8 = .ok (.lload_n 1, 1) := by decide +kernel
theorem d_Floats_root_9 : decode b_Floats_root 9 = .ok (.lreturn, 1) := by decide +kernel
theorem d_Floats_root_10 : decode b_Floats_root 10 = .ok (.aload_n 0, 1) := by decide +kernel
theorem d_Floats_root_11 : decode b_Floats_root 11 = .ok (.lload_n 1, 1) := by decide +kernel
theorem d_Floats_root_12 : decode b_Floats_root 12 = .ok (.invokevirtual 19, 3) := by decide +kernel
theorem d_Floats_root_15 : decode b_Floats_root 15 = .ok (.lconst 0, 1) := by decide +kernel
theorem d_Floats_root_16 : decode b_Floats_root 16 = .ok (.lcmp, 1) := by decide +kernel
theorem d_Floats_root_17 : decode b_Floats_root 17 = .ok (.ifCond .eq 8, 3) := by decide +kernel
theorem d_Floats_root_20 : decode b_Floats_root 20 = .ok (.aload_n 0, 1) := by decide +kernel
theorem d_Floats_root_21 : decode b_Floats_root 21 = .ok (.getfield 30, 3) := by decide +kernel
theorem d_Floats_root_24 : decode b_Floats_root 24 = .ok (.lreturn, 1) := by decide +kernel
theorem d_Floats_root_25 : decode b_Floats_root 25 = .ok (.aload_n 0, 1) := by decide +kernel
theorem d_Floats_root_26 : decode b_Floats_root 26 = .ok (.lload_n 1, 1) := by decide +kernel
theorem d_Floats_root_27 : decode b_Floats_root 27 = .ok (.invokevirtual 59, 3) := by decide +kernel
theorem d_Floats_root_30 : decode b_Floats_root 30 = .ok (.ifCond .eq 5, 3) := by decide +kernel
theorem d_Floats_root_33 : decode b_Floats_root 33 = .ok (.lload_n 1, 1) := by decide +kernel
theorem d_Floats_root_34 : decode b_Floats_root 34 = .ok (.lreturn, 1) := by decide +kernel
theorem d_Floats_root_35 : decode b_Floats_root 35 = .ok (.aload_n 0, 1) := by decide +kernel
theorem d_Floats_root_36 : decode b_Floats_root 36 = .ok (.lload_n 1, 1) := by decide +kernel
theorem d_Floats_root_37 : decode b_Floats_root 37 = .ok (.invokestatic 97, 3) := by decide +kernel
theorem d_Floats_root_40 : decode b_Floats_root 40 = .ok (.iconst 1, 1) := by decide +kernel
theorem d_Floats_root_41 : decode b_Floats_root 41 = .ok (.iand, 1) := by decide +kernel
theorem d_Floats_root_42 : decode b_Floats_root 42 = .ok (.istore_n 3, 1) := by decide +kernel
theorem d_Floats_root_43 : decode b_Floats_root 43 = .ok (.aload_n 0, 1) := by decide +kernel
theorem d_Floats_root_44 : decode b_Floats_root 44 = .ok (.lload_n 1, 1) := by decide +kernel
theorem d_Floats_root_45 : decode b_Floats_root 45 = .ok (.invokestatic 85, 3) := by decide +kernel
theorem d_Floats_root_48 : decode b_Floats_root 48 = .ok (.iload_n 3, 1) := by decide +kernel
theorem d_Floats_root_49 : decode b_Floats_root 49 = .ok (.lshl, 1) := by decide +kernel
theorem d_Floats_root_50 : decode b_Floats_root 50 = .ok (.lstore 4, 2) := by decide +kernel
theorem d_Floats_root_52 : decode b_Floats_root 52 = .ok (.aload_n 0, 1) := by decide +kernel
theorem d_Floats_root_53 : decode b_Floats_root 53 = .ok (.lload_n 1, 1) := by decide +kernel
theorem d_Floats_root_54 : decode b_Floats_root 54 = .ok (.invokestatic 97, 3) := by decide +kernel
theorem d_Floats_root_57 : decode b_Floats_root 57 = .ok (.iload_n 3, 1) := by decide +kernel
theorem d_Floats_root_58 : decode b_Floats_root 58 = .ok (.isub, 1) := by decide +kernel
theorem d_Floats_root_59 : decode b_Floats_root 59 = .ok (.iconst 1, 1) := by decide +kernel
theorem d_Floats_root_60 : decode b_Floats_root 60 = .ok (.ishr, 1) := by decide +kernel
theorem d_Floats_root_61 : decode b_Floats_root 61 = .ok (.istore 6, 2) := by decide +kernel
theorem d_Floats_root_63 : decode b_Floats_root 63 = .ok (.aload_n 0, 1) := by decide +kernel
theorem d_Floats_root_64 : decode b_Floats_root 64 = .ok (.lconst 0, 1) := by decide +kernel
theorem d_Floats_root_65 : decode b_Floats_root 65 = .ok (.lload 4, 2) := by decide +kernel
theorem d_Floats_root_67 : decode b_Floats_root 67 = .ok (.invokestatic 109, 3) := by decide +kernel
theorem d_Floats_root_70 : decode b_Floats_root 70 = .ok (.iload 6, 2) := by decide +kernel
theorem d_Floats_root_72 : decode b_Floats_root 72 = .ok (.bipush 24, 2) := by decide +kernel
theorem d_Floats_root_74 : decode b_Floats_root 74 = .ok (.isub, 1) := by decide +kernel
theorem d_Floats_root_75 : decode b_Floats_root 75 = .ok (.invokevirtual 78, 3) := by decide +kernel
theorem d_Floats_root_78 : decode b_Floats_root 78 = .ok (.lreturn, 1) := by decide +kernel
abbrev b_Floats_calculate : ByteArray := prog_4_method_4_code
def y_Floats_calculate : MethodName := ⟨"BitArithmetic$Floats", "calculate", "(ILBitArithmetic$Form;JJ)J"⟩
theorem d_Floats_calculate_0 : decode b_Floats_calculate 0 = .ok (.iload_n 0, 1) := by decide +kernel
theorem d_Floats_calculate_1 : decode b_Floats_calculate 1 = .ok (.lookupswitch 61 #[(139, 35), (140, 41), (152, 48)], 35) := by decide +kernel
theorem d_Floats_calculate_36 : decode b_Floats_calculate 36 = .ok (.aload_n 1, 1) := by decide +kernel
theorem d_Floats_calculate_37 : decode b_Floats_calculate 37 = .ok (.lload_n 2, 1) := by decide +kernel
theorem d_Floats_calculate_38 : decode b_Floats_calculate 38 = .ok (.invokevirtual 23, 3) := by decide +kernel
theorem d_Floats_calculate_41 : decode b_Floats_calculate 41 = .ok (.lreturn, 1) := by decide +kernel
theorem d_Floats_calculate_42 : decode b_Floats_calculate 42 = .ok (.lload_n 2, 1) := by decide +kernel
theorem d_Floats_calculate_43 : decode b_Floats_calculate 43 = .ok (.aload_n 1, 1) := by decide +kernel
theorem d_Floats_calculate_44 : decode b_Floats_calculate 44 = .ok (.getfield 26, 3) := by decide +kernel
theorem d_Floats_calculate_47 : decode b_Floats_calculate 47 = .ok (.lxor, 1) := by decide +kernel
theorem d_Floats_calculate_48 : decode b_Floats_calculate 48 = .ok (.lreturn, 1) := by decide +kernel
theorem d_Floats_calculate_49 : decode b_Floats_calculate 49 = .ok (.aload_n 1, 1) := by decide +kernel
theorem d_Floats_calculate_50 : decode b_Floats_calculate 50 = .ok (.lload_n 2, 1) := by decide +kernel
theorem d_Floats_calculate_51 : decode b_Floats_calculate 51 = .ok (.invokevirtual 23, 3) := by decide +kernel
theorem d_Floats_calculate_54 : decode b_Floats_calculate 54 = .ok (.aload_n 1, 1) := by decide +kernel
theorem d_Floats_calculate_55 : decode b_Floats_calculate 55 = .ok (.lload 4, 2) := by decide +kernel
theorem d_Floats_calculate_57 : decode b_Floats_calculate 57 = .ok (.invokevirtual 19, 3) := by decide +kernel
theorem d_Floats_calculate_60 : decode b_Floats_calculate 60 = .ok (.lor, 1) := by decide +kernel
theorem d_Floats_calculate_61 : decode b_Floats_calculate 61 = .ok (.lreturn, 1) := by decide +kernel
theorem d_Floats_calculate_62 : decode b_Floats_calculate 62 = .ok (.iload_n 0, 1) := by decide +kernel
theorem d_Floats_calculate_63 : decode b_Floats_calculate 63 = .ok (.sipush 146, 3) := by decide +kernel
theorem d_Floats_calculate_66 : decode b_Floats_calculate 66 = .ok (.if_icmp .lt 7, 3) := by decide +kernel
theorem d_Floats_calculate_69 : decode b_Floats_calculate 69 = .ok (.iconst 1, 1) := by decide +kernel
theorem d_Floats_calculate_70 : decode b_Floats_calculate 70 = .ok (.goto 4, 3) := by decide +kernel
theorem d_Floats_calculate_73 : decode b_Floats_calculate 73 = .ok (.iconst 0, 1) := by decide +kernel
theorem d_Floats_calculate_74 : decode b_Floats_calculate 74 = .ok (.istore 6, 2) := by decide +kernel
theorem d_Floats_calculate_76 : decode b_Floats_calculate 76 = .ok (.aload_n 1, 1) := by decide +kernel
theorem d_Floats_calculate_77 : decode b_Floats_calculate 77 = .ok (.lload_n 2, 1) := by decide +kernel
theorem d_Floats_calculate_78 : decode b_Floats_calculate 78 = .ok (.invokevirtual 7, 3) := by decide +kernel
theorem d_Floats_calculate_81 : decode b_Floats_calculate 81 = .ok (.ifCond .ne 17, 3) := by decide +kernel
theorem d_Floats_calculate_84 : decode b_Floats_calculate 84 = .ok (.iload 6, 2) := by decide +kernel
theorem d_Floats_calculate_86 : decode b_Floats_calculate 86 = .ok (.ifCond .eq 17, 3) := by decide +kernel
theorem d_Floats_calculate_89 : decode b_Floats_calculate 89 = .ok (.aload_n 1, 1) := by decide +kernel
theorem d_Floats_calculate_90 : decode b_Floats_calculate 90 = .ok (.lload 4, 2) := by decide +kernel
theorem d_Floats_calculate_92 : decode b_Floats_calculate 92 = .ok (.invokevirtual 7, 3) := by decide +kernel
theorem d_Floats_calculate_95 : decode b_Floats_calculate 95 = .ok (.ifCond .eq 8, 3) := by decide +kernel
theorem d_Floats_calculate_98 : decode b_Floats_calculate 98 = .ok (.aload_n 1, 1) := by decide +kernel
theorem d_Floats_calculate_99 : decode b_Floats_calculate 99 = .ok (.getfield 30, 3) := by decide +kernel
theorem d_Floats_calculate_102 : decode b_Floats_calculate 102 = .ok (.lreturn, 1) := by decide +kernel
theorem d_Floats_calculate_103 : decode b_Floats_calculate 103 = .ok (.iload_n 0, 1) := by decide +kernel
theorem d_Floats_calculate_104 : decode b_Floats_calculate 104 = .ok (.tableswitch 121 145 151 #[44, 50, 58, 71, 79, 87, 104], 44) := by decide +kernel
theorem d_Floats_calculate_148 : decode b_Floats_calculate 148 = .ok (.aload_n 1, 1) := by decide +kernel
theorem d_Floats_calculate_149 : decode b_Floats_calculate 149 = .ok (.lload_n 2, 1) := by decide +kernel
theorem d_Floats_calculate_150 : decode b_Floats_calculate 150 = .ok (.invokestatic 33, 3) := by decide +kernel
theorem d_Floats_calculate_153 : decode b_Floats_calculate 153 = .ok (.lreturn, 1) := by decide +kernel
theorem d_Floats_calculate_154 : decode b_Floats_calculate 154 = .ok (.aload_n 1, 1) := by decide +kernel
theorem d_Floats_calculate_155 : decode b_Floats_calculate 155 = .ok (.lload_n 2, 1) := by decide +kernel
theorem d_Floats_calculate_156 : decode b_Floats_calculate 156 = .ok (.lload 4, 2) := by decide +kernel
theorem d_Floats_calculate_158 : decode b_Floats_calculate 158 = .ok (.invokestatic 36, 3) := by decide +kernel
theorem d_Floats_calculate_161 : decode b_Floats_calculate 161 = .ok (.lreturn, 1) := by decide +kernel
theorem d_Floats_calculate_162 : decode b_Floats_calculate 162 = .ok (.aload_n 1, 1) := by decide +kernel
theorem d_Floats_calculate_163 : decode b_Floats_calculate 163 = .ok (.lload_n 2, 1) := by decide +kernel
theorem d_Floats_calculate_164 : decode b_Floats_calculate 164 = .ok (.lload 4, 2) := by decide +kernel
theorem d_Floats_calculate_166 : decode b_Floats_calculate 166 = .ok (.aload_n 1, 1) := by decide +kernel
theorem d_Floats_calculate_167 : decode b_Floats_calculate 167 = .ok (.getfield 26, 3) := by decide +kernel
theorem d_Floats_calculate_170 : decode b_Floats_calculate 170 = .ok (.lxor, 1) := by decide +kernel
theorem d_Floats_calculate_171 : decode b_Floats_calculate 171 = .ok (.invokestatic 36, 3) := by decide +kernel
theorem d_Floats_calculate_174 : decode b_Floats_calculate 174 = .ok (.lreturn, 1) := by decide +kernel
theorem d_Floats_calculate_175 : decode b_Floats_calculate 175 = .ok (.aload_n 1, 1) := by decide +kernel
theorem d_Floats_calculate_176 : decode b_Floats_calculate 176 = .ok (.lload_n 2, 1) := by decide +kernel
theorem d_Floats_calculate_177 : decode b_Floats_calculate 177 = .ok (.lload 4, 2) := by decide +kernel
theorem d_Floats_calculate_179 : decode b_Floats_calculate 179 = .ok (.invokestatic 40, 3) := by decide +kernel
theorem d_Floats_calculate_182 : decode b_Floats_calculate 182 = .ok (.lreturn, 1) := by decide +kernel
theorem d_Floats_calculate_183 : decode b_Floats_calculate 183 = .ok (.aload_n 1, 1) := by decide +kernel
theorem d_Floats_calculate_184 : decode b_Floats_calculate 184 = .ok (.lload_n 2, 1) := by decide +kernel
theorem d_Floats_calculate_185 : decode b_Floats_calculate 185 = .ok (.lload 4, 2) := by decide +kernel
theorem d_Floats_calculate_187 : decode b_Floats_calculate 187 = .ok (.invokestatic 43, 3) := by decide +kernel
theorem d_Floats_calculate_190 : decode b_Floats_calculate 190 = .ok (.lreturn, 1) := by decide +kernel
theorem d_Floats_calculate_191 : decode b_Floats_calculate 191 = .ok (.aload_n 1, 1) := by decide +kernel
theorem d_Floats_calculate_192 : decode b_Floats_calculate 192 = .ok (.lload 4, 2) := by decide +kernel
theorem d_Floats_calculate_194 : decode b_Floats_calculate 194 = .ok (.lload_n 2, 1) := by decide +kernel
theorem d_Floats_calculate_195 : decode b_Floats_calculate 195 = .ok (.invokestatic 46, 3) := by decide +kernel
theorem d_Floats_calculate_198 : decode b_Floats_calculate 198 = .ok (.ifCond .eq 8, 3) := by decide +kernel
theorem d_Floats_calculate_201 : decode b_Floats_calculate 201 = .ok (.lload 4, 2) := by decide +kernel
theorem d_Floats_calculate_203 : decode b_Floats_calculate 203 = .ok (.goto 4, 3) := by decide +kernel
theorem d_Floats_calculate_206 : decode b_Floats_calculate 206 = .ok (.lload_n 2, 1) := by decide +kernel
theorem d_Floats_calculate_207 : decode b_Floats_calculate 207 = .ok (.lreturn, 1) := by decide +kernel
theorem d_Floats_calculate_208 : decode b_Floats_calculate 208 = .ok (.aload_n 1, 1) := by decide +kernel
theorem d_Floats_calculate_209 : decode b_Floats_calculate 209 = .ok (.lload_n 2, 1) := by decide +kernel
theorem d_Floats_calculate_210 : decode b_Floats_calculate 210 = .ok (.lload 4, 2) := by decide +kernel
theorem d_Floats_calculate_212 : decode b_Floats_calculate 212 = .ok (.invokestatic 46, 3) := by decide +kernel
theorem d_Floats_calculate_215 : decode b_Floats_calculate 215 = .ok (.ifCond .eq 8, 3) := by decide +kernel
theorem d_Floats_calculate_218 : decode b_Floats_calculate 218 = .ok (.lload 4, 2) := by decide +kernel
theorem d_Floats_calculate_220 : decode b_Floats_calculate 220 = .ok (.goto 4, 3) := by decide +kernel
theorem d_Floats_calculate_223 : decode b_Floats_calculate 223 = .ok (.lload_n 2, 1) := by decide +kernel
theorem d_Floats_calculate_224 : decode b_Floats_calculate 224 = .ok (.lreturn, 1) := by decide +kernel
theorem d_Floats_calculate_225 : decode b_Floats_calculate 225 = .ok (.iload_n 0, 1) := by decide +kernel
theorem d_Floats_calculate_226 : decode b_Floats_calculate 226 = .ok (.aload_n 1, 1) := by decide +kernel
theorem d_Floats_calculate_227 : decode b_Floats_calculate 227 = .ok (.lload_n 2, 1) := by decide +kernel
theorem d_Floats_calculate_228 : decode b_Floats_calculate 228 = .ok (.invokestatic 50, 3) := by decide +kernel
theorem d_Floats_calculate_231 : decode b_Floats_calculate 231 = .ok (.lreturn, 1) := by decide +kernel
end
section
/-! ===== lN n to 2^64: shifts, and, or, masks, one bit ===== -/
theorem wb_tb (n : Nat) : (lN n).toBitVec = BitVec.ofNat 64 n := rfl
theorem wb_inj {a b : Int64} (h : a.toBitVec = b.toBitVec) : a = b := Int64.toBitVec_inj.mp h
theorem wb_tn {n : Nat} (h : n < 2 ^ 64) : (lN n).toBitVec.toNat = n := by rw [wb_tb, BitVec.toNat_ofNat, Nat.mod_eq_of_lt h]
theorem wb_of (x : Int64) : ∃ n, n < 2 ^ 64 ∧ x = lN n := ⟨x.toBitVec.toNat, x.toBitVec.isLt, wb_inj (by rw [wb_tb]; simp)⟩
theorem wb_of32 (x : Int32) : ∃ n, n < 2 ^ 32 ∧ x = nI n := ⟨x.toBitVec.toNat, x.toBitVec.isLt, Int32.toBitVec_inj.mp (by show _ = BitVec.ofNat 32 _; simp)⟩
theorem wb_c : ∀ k, k < 64 → ((nI k).toInt64 &&& 63) = lN k := by decide +kernel
theorem wb_cu : ∀ k, k < 64 → ((nI k).toInt64.toUInt64 &&& Int64.toUInt64 63) = UInt64.ofNat k := by decide +kernel
theorem wb_sm : ∀ k, k < 64 → (BitVec.ofNat 64 k).smod 64 = BitVec.ofNat 64 k := by decide +kernel
theorem wb_pw {a b : Nat} (h : a ≤ b) : 2 ^ b = 2 ^ a * 2 ^ (b - a) := by rw [← Nat.pow_add]; congr 1; omega
theorem wb_lt2 {a b : Nat} (h : a < b) : 2 ^ a < 2 ^ b := Nat.pow_lt_pow_right (by decide) h
theorem wb_mod (n : Nat) : lN n = lN (n % 2 ^ 64) := wb_inj (by rw [wb_tb, wb_tb]; apply BitVec.eq_of_toNat_eq; rw [BitVec.toNat_ofNat, BitVec.toNat_ofNat, Nat.mod_mod])
theorem wb_shr {n k : Nat} (hn : n < 2 ^ 64) (hk : k < 64) : ((lN n).toUInt64 >>> ((nI k).toInt64.toUInt64 &&& Int64.toUInt64 63)).toInt64 = lN (n / 2 ^ k) := by
  rw [wb_cu k hk]
  apply wb_inj
  apply BitVec.eq_of_toNat_eq
  show ((lN n).toUInt64 >>> UInt64.ofNat k).toNat = (BitVec.ofNat 64 _).toNat
  have h1 : (UInt64.ofNat k).toNat = k := by
    show (BitVec.ofNat 64 k).toNat = k
    rw [BitVec.toNat_ofNat, Nat.mod_eq_of_lt (by omega)]
  have h2 : (lN n).toUInt64.toNat = n := wb_tn hn
  rw [UInt64.toNat_shiftRight, h1, h2, Nat.mod_eq_of_lt hk, Nat.shiftRight_eq_div_pow, BitVec.toNat_ofNat, Nat.mod_eq_of_lt (Nat.lt_of_le_of_lt (Nat.div_le_self _ _) hn)]
theorem wb_shl (n : Nat) {k : Nat} (hk : k < 64) : lN n <<< ((nI k).toInt64 &&& 63) = lN (n * 2 ^ k) := by
  rw [wb_c k hk]
  apply wb_inj
  rw [Int64.toBitVec_shiftLeft, wb_tb, wb_tb, wb_tb, wb_sm k hk]
  apply BitVec.eq_of_toNat_eq
  rw [BitVec.shiftLeft_eq', BitVec.toNat_shiftLeft, BitVec.toNat_ofNat, BitVec.toNat_ofNat, BitVec.toNat_ofNat, Nat.mod_eq_of_lt (show k < 2 ^ 64 by omega), Nat.shiftLeft_eq, Nat.mul_mod, Nat.mod_mod, ← Nat.mul_mod]
theorem wb_and {a b : Nat} (ha : a < 2 ^ 64) (hb : b < 2 ^ 64) : lN a &&& lN b = lN (a &&& b) := by
  apply wb_inj
  rw [Int64.toBitVec_and, wb_tb, wb_tb, wb_tb]
  apply BitVec.eq_of_toNat_eq
  rw [BitVec.toNat_and, BitVec.toNat_ofNat, BitVec.toNat_ofNat, BitVec.toNat_ofNat, Nat.mod_eq_of_lt ha, Nat.mod_eq_of_lt hb, Nat.mod_eq_of_lt (Nat.and_lt_two_pow _ hb)]
theorem wb_or {a b : Nat} (ha : a < 2 ^ 64) (hb : b < 2 ^ 64) : lN a ||| lN b = lN (a ||| b) := by
  apply wb_inj
  rw [Int64.toBitVec_or, wb_tb, wb_tb, wb_tb]
  apply BitVec.eq_of_toNat_eq
  rw [BitVec.toNat_or, BitVec.toNat_ofNat, BitVec.toNat_ofNat, BitVec.toNat_ofNat, Nat.mod_eq_of_lt ha, Nat.mod_eq_of_lt hb, Nat.mod_eq_of_lt (Nat.or_lt_two_pow ha hb)]
theorem wb_mask {n k : Nat} (hn : n < 2 ^ 64) (hk : k < 64) : lN n &&& lN (2 ^ k - 1) = lN (n % 2 ^ k) := by
  rw [wb_and hn (by have := wb_lt2 hk; omega), Nat.and_two_pow_sub_one_eq_mod]
theorem wb_a1 {n : Nat} (hn : n < 2 ^ 64) : lN n &&& 1 = lN (n % 2) := wb_mask (k := 1) hn (by decide)
theorem wb_bit {n k : Nat} (hn : n < 2 ^ 64) (hk : k < 64) : ((lN n).toUInt64 >>> ((nI k).toInt64.toUInt64 &&& Int64.toUInt64 63)).toInt64 &&& 1 = lN (n / 2 ^ k % 2) := by
  rw [wb_shr hn hk, wb_a1 (Nat.lt_of_le_of_lt (Nat.div_le_self _ _) hn)]
theorem wb_xor {q k : Nat} (hk : k < 63) (h : 2 ^ k ≤ q) (h2 : q < 2 ^ (k + 1)) : lN q ^^^ lN (2 ^ k) = lN (q - 2 ^ k) := by
  obtain ⟨r, rfl⟩ : ∃ r, q = 2 ^ k + r := ⟨q - 2 ^ k, by omega⟩
  have hr : r < 2 ^ k := by rw [Nat.pow_succ] at h2; omega
  have hx : (2 ^ k + r) ^^^ 2 ^ k = r := by
    apply Nat.eq_of_testBit_eq
    intro i
    rw [Nat.testBit_xor, Nat.testBit_two_pow]
    rcases Nat.lt_trichotomy i k with h | h | h
    · rw [Nat.testBit_two_pow_add_gt h]
      simp [show ¬ k = i by omega]
    · subst h
      rw [Nat.testBit_two_pow_add_eq]
      simp
    · have a1 : 2 ^ (k + 1) ≤ 2 ^ i := Nat.pow_le_pow_right (by decide) h
      rw [Nat.testBit_lt_two_pow (show 2 ^ k + r < 2 ^ i by omega), Nat.testBit_lt_two_pow (show r < 2 ^ i by omega)]
      simp [show ¬ k = i by omega]
  have b1 := wb_lt2 (show k + 1 < 64 by omega)
  have b2 := wb_lt2 (show k < 64 by omega)
  apply wb_inj
  rw [Int64.toBitVec_xor, wb_tb, wb_tb, wb_tb]
  apply BitVec.eq_of_toNat_eq
  rw [BitVec.toNat_xor, BitVec.toNat_ofNat, BitVec.toNat_ofNat, BitVec.toNat_ofNat, Nat.mod_eq_of_lt (by omega : 2 ^ k + r < 2 ^ 64), Nat.mod_eq_of_lt b2, hx, Nat.add_sub_cancel_left, Nat.mod_eq_of_lt (by omega)]

/-! ===== unsigned comparison by xor with the least ===== -/
theorem lN_bv (n : Nat) : (lN n).toBitVec = BitVec.ofNat 64 n := rfl
theorem lN_nat {n : Nat} (h : n < 2 ^ 64) : (lN n).toBitVec.toNat = n := by rw [lN_bv, BitVec.toNat_ofNat]; exact Nat.mod_eq_of_lt h
theorem lN_xor (a b : Nat) : lN a ^^^ lN b = lN (a ^^^ b) := by
  apply Int64.toBitVec_inj.mp; rw [Int64.toBitVec_xor, lN_bv, lN_bv, lN_bv]; apply BitVec.eq_of_getLsbD_eq; intro i hi; simp [BitVec.getLsbD_ofNat, Nat.testBit_xor, hi]
theorem lN_ti {m : Nat} (h : m < 2 ^ 64) : (lN m).toInt = if m < 2 ^ 63 then (m : Int) else (m : Int) - 2 ^ 64 := by
  have c := BitVec.toInt_eq_toNat_cond (lN m).toBitVec
  rw [lN_nat h] at c
  show (lN m).toBitVec.toInt = _
  rw [c]
  split <;> split <;> omega
theorem xor63 {x : Nat} (h : x < 2 ^ 63) : x ^^^ 2 ^ 63 = 2 ^ 63 + x := by
  apply Nat.eq_of_testBit_eq
  intro i
  rw [Nat.testBit_xor, Nat.testBit_two_pow]
  rcases Nat.lt_trichotomy i 63 with z | z | z
  · rw [Nat.testBit_two_pow_add_gt z, decide_eq_false (by omega)]; simp
  · subst z; rw [Nat.testBit_two_pow_add_eq]; simp
  · have hp : 2 ^ 64 ≤ 2 ^ i := Nat.pow_le_pow_right (by decide) z
    rw [Nat.testBit_lt_two_pow (show x < 2 ^ i by omega), Nat.testBit_lt_two_pow (show 2 ^ 63 + x < 2 ^ i by omega), decide_eq_false (by omega)]; rfl
theorem xorS {a : Nat} (h : a < 2 ^ 64) : (lN a ^^^ (-9223372036854775808)).toInt = (a : Int) - 2 ^ 63 := by
  rw [show (-9223372036854775808 : Int64) = lN (2 ^ 63) from by decide +kernel, lN_xor]
  rcases Nat.lt_or_ge a (2 ^ 63) with z | z
  · rw [xor63 z, lN_ti (by omega), if_neg (by omega)]; omega
  · obtain ⟨x, rfl⟩ : ∃ x, a = 2 ^ 63 + x := ⟨a - 2 ^ 63, by omega⟩
    rw [← xor63 (by omega), Nat.xor_assoc, Nat.xor_self, Nat.xor_zero, lN_ti (by omega), if_pos (by omega), xor63 (by omega)]; omega
theorem ultL {a b : Nat} (ha : a < 2 ^ 64) (hb : b < 2 ^ 64) : ((lN b ^^^ (-9223372036854775808)) ≤ (lN a ^^^ (-9223372036854775808))) ↔ b ≤ a := by
  rw [Int64.le_iff_toInt_le, xorS ha, xorS hb]; omega

/-! ints and longs as integers -/
def zI (z : Int) : Int32 := Int32.ofInt z
def zL (z : Int) : Int64 := Int64.ofInt z
def ir_ (a : Int) : Prop := -2147483648 ≤ a ∧ a < 2147483648
theorem zI_add (a b : Int) : zI a + zI b = zI (a + b) := (Int32.ofInt_add a b).symm
theorem zI_sub (a b : Int) : zI a - zI b = zI (a - b) := (Int32.ofInt_sub a b).symm
theorem zI_mul (a b : Int) : zI a * zI b = zI (a * b) := (Int32.ofInt_mul a b).symm
theorem zI_neg (a : Int) : -zI a = zI (-a) := (Int32.ofInt_neg a).symm
theorem zI_n (n : Nat) : zI n = nI n := Int32.ofInt_eq_ofNat
theorem zI_t {a : Int} (h : ir_ a) : (zI a).toInt = a := Int32.toInt_ofInt_of_le (by have := h.1; omega) (by have := h.2; omega)
theorem zI_of (x : Int32) : x = zI x.toInt := (Int32.ofInt_toInt x).symm
theorem zI_ir (x : Int32) : ir_ x.toInt := ⟨by have := x.le_toInt; omega, by have := x.toInt_lt; omega⟩
theorem zI_lt {a b : Int} (ha : ir_ a) (hb : ir_ b) : zI a < zI b ↔ a < b := by rw [Int32.lt_iff_toInt_lt, zI_t ha, zI_t hb]
theorem zI_le {a b : Int} (ha : ir_ a) (hb : ir_ b) : zI a ≤ zI b ↔ a ≤ b := by rw [Int32.le_iff_toInt_le, zI_t ha, zI_t hb]
theorem zI_eq {a b : Int} (ha : ir_ a) (hb : ir_ b) : zI a = zI b ↔ a = b :=
  ⟨fun h => by have h2 := congrArg Int32.toInt h; rwa [zI_t ha, zI_t hb] at h2, fun h => by rw [h]⟩
theorem zL_add (a b : Int) : zL a + zL b = zL (a + b) := (Int64.ofInt_add a b).symm
theorem zL_sub (a b : Int) : zL a - zL b = zL (a - b) := (Int64.ofInt_sub a b).symm
theorem zL_mul (a b : Int) : zL a * zL b = zL (a * b) := (Int64.ofInt_mul a b).symm
theorem zL_neg (a : Int) : -zL a = zL (-a) := (Int64.ofInt_neg a).symm
theorem zL_n (n : Nat) : zL n = lN n := Int64.ofInt_eq_ofNat
theorem zL_of (x : Int64) : x = zL x.toInt := (Int64.ofInt_toInt x).symm
def shl_ (x : Int64) (y : Int32) : Int64 := x <<< (y.toInt64 &&& 63)
def shr_ (x : Int64) (y : Int32) : Int64 := x >>> (y.toInt64 &&& 63)
def ush_ (x : Int64) (y : Int32) : Int64 := (x.toUInt64 >>> (y.toInt64.toUInt64 &&& Int64.toUInt64 63)).toInt64
def iush_ (x y : Int32) : Int32 := (x.toUInt32 >>> (y.toUInt32 &&& Int32.toUInt32 31)).toInt32
theorem shl_lN (n : Nat) {k : Nat} (hk : k < 64) : shl_ (lN n) (nI k) = lN (n * 2 ^ k) := wb_shl n hk
theorem ush_lN {n k : Nat} (hn : n < 2 ^ 64) (hk : k < 64) : ush_ (lN n) (nI k) = lN (n / 2 ^ k) := wb_shr hn hk
/-- a long below 0: its highest bit -/
theorem lN_neg {n : Nat} (h : n < 2 ^ 64) : lN n < 0 ↔ 2 ^ 63 ≤ n := by
  rw [Int64.lt_iff_toInt_lt, lN_ti h, show (0 : Int64).toInt = 0 from rfl]
  split <;> omega
theorem lN_inj64 {a b : Nat} (ha : a < 2 ^ 64) (hb : b < 2 ^ 64) : lN a = lN b ↔ a = b :=
  ⟨fun h => by have h2 := congrArg (fun x : Int64 => x.toBitVec.toNat) h; simpa only [wb_tn ha, wb_tn hb] using h2, fun h => by rw [h]⟩
theorem lN_z64 {a : Nat} (ha : a < 2 ^ 64) : lN a = 0 ↔ a = 0 := lN_inj64 (b := 0) ha (by decide)
theorem lN_sub64 {a b : Nat} (h : b ≤ a) : lN a - lN b = lN (a - b) := lN_sub h
theorem lN_sslt {a b : Nat} (ha : a < 2 ^ 64) (hb : b < 2 ^ 64) : lN a < lN b ↔ (if a < 2 ^ 63 then (a : Int) else (a : Int) - 2 ^ 64) < (if b < 2 ^ 63 then (b : Int) else (b : Int) - 2 ^ 64) := by
  rw [Int64.lt_iff_toInt_lt, lN_ti ha, lN_ti hb]
theorem or1_lN {a : Nat} (ha : a < 2 ^ 64) : lN a ||| 1 = lN (a ||| 1) := wb_or (b := 1) ha (by decide)
end
section
/-! ONE TABLE OF WORDS FOR EVERY METHOD, the world of the constants, and rows for methods that only reckon -/
def BT : List Cond := lw_tbl.filter goodWord
theorem bt_mem {w : Cond} (i : Nat) (h : (decide (lw_tbl[i]? = some w) && goodWord w) = true) : w ∈ BT := by
  rw [Bool.and_eq_true, decide_eq_true_eq] at h
  exact List.mem_filter.mpr ⟨List.mem_of_getElem? h.1, h.2⟩
theorem bt_good {w : Cond} (h : w ∈ BT) : (w.onTables && w.keeps) = true ∨ ∃ ty, w = .arrayClass ty := good_of_word (List.mem_filter.mp h).2
theorem bt_in {w : Cond} (h : w ∈ BT) : w ∈ lw_tbl := (List.mem_filter.mp h).1
theorem bt_GI {y : MethodName} {bytes : ByteArray} {maxL : Nat} {ret : Option FieldType} (hc : Cond.code y bytes maxL ret ∈ BT) : GoodIn BT (Cond.code y bytes maxL ret :: BT) := by
  intro w hw
  rcases List.mem_cons.mp hw with rfl | h
  · exact ⟨hc, bt_good hc⟩
  · exact ⟨h, bt_good h⟩
/-- the forms: index 0 of 32 bits, 1 of 64 -/
def fm_w (i : Nat) : Int32 := [32, 64].getD i 0
def fm_f (i : Nat) : Int32 := [23, 52].getD i 0
def fm_b (i : Nat) : Int32 := [127, 1023].getD i 0
def fm_s (i : Nat) : Int64 := [2147483648, -9223372036854775808].getD i 0
def fm_i (i : Nat) : Int64 := [2139095040, 9218868437227405312].getD i 0
def fm_n (i : Nat) : Int64 := [2143289344, 9221120237041090560].getD i 0
def tb_from : List Int32 := [1, 2, 2, 3, 3, 0, 0, 2, 2, 3, 3, 0, 0, 1, 1, 3, 0, 0, 1, 1, 2, 2, 3, 0, 1]
def tb_to : List Int32 := [0, 0, 0, 0, 0, 1, 1, 1, 1, 1, 1, 2, 2, 2, 2, 2, 3, 3, 3, 3, 3, 0, 1, 2, 3]
abbrev nFm : String := "BitArithmetic$Form"
abbrev nKd : String := "BitArithmetic$Kinds"
abbrev nTh : String := "java/lang/Throwable"
abbrev fmF : List (String × String × String × List Int32) := [(nFm, "width", "I", [32, 64]), (nFm, "fractionBits", "I", [23, 52]), (nFm, "bias", "I", [127, 1023])]
def FW (A : Nat → Prop) (ad : Nat → Nat) (U : State) (H : Heap) : Prop :=
  va_En nFm "LBitArithmetic$Form;" ["OF_32", "OF_64"] fmF ad A U H ∧
  va_Ef 2 nFm "signBit" "J" (fun i => .long (fm_s i)) ad A U H ∧ va_Ef 2 nFm "infinity" "J" (fun i => .long (fm_i i)) ad A U H ∧ va_Ef 2 nFm "noNumber" "J" (fun i => .long (fm_n i)) ad A U H ∧
  (va_Z nKd "CONVERTED_FROM" "[I" (.ref (ad 2)) A U H ∧ va_T .int (ad 2) 25 (fun j => .int (tb_from.getD j 0)) A U H) ∧
  (va_Z nKd "CONVERTED_TO" "[I" (.ref (ad 3)) A U H ∧ va_T .int (ad 3) 25 (fun j => .int (tb_to.getD j 0)) A U H) ∧
  vx_Zq nTh "UNASSIGNED_STACK" "[Ljava/lang/StackTraceElement;" A U H ∧ vx_Zq nTh "SUPPRESSED_SENTINEL" "Ljava/util/List;" A U H
theorem FW.moved {A : Nat → Prop} {ad : Nat → Nat} {u U : State} {H : Heap} (hvm : u.vm.Alike U.vm) (h : FW A ad u H) : FW A ad U H := by
  obtain ⟨h1, h2, h3, h4, ⟨h5, h6⟩, ⟨h7, h8⟩, h9, h10⟩ := h
  exact ⟨va_En.moved hvm h1, va_Ef.moved hvm h2, va_Ef.moved hvm h3, va_Ef.moved hvm h4, ⟨va_Z.moved hvm h5, va_T.moved hvm h6⟩, ⟨va_Z.moved hvm h7, va_T.moved hvm h8⟩, vx_Zq.moved hvm h9, vx_Zq.moved hvm h10⟩
theorem FW.kept {A : Nat → Prop} {ad : Nat → Nat} {U : State} {H H1 : Heap} (h : FW A ad U H) (hq : ∀ a : Nat, a < H.size → ¬ A a → H1[a]? = H[a]?) : FW A ad U H1 := by
  obtain ⟨h1, h2, h3, h4, ⟨h5, h6⟩, ⟨h7, h8⟩, h9, h10⟩ := h
  exact ⟨h1.kept hq, h2.kept hq, h3.kept hq, h4.kept hq, ⟨h5.kept hq, h6.kept hq⟩, ⟨h7.kept hq, h8.kept hq⟩, h9.kept hq, h10.kept hq⟩
theorem FW.narrow {A B : Nat → Prop} {ad : Nat → Nat} {U : State} {H : Heap} (h : FW A ad U H) (hAB : ∀ q, B q → A q) : FW B ad U H := by
  obtain ⟨h1, h2, h3, h4, ⟨h5, h6⟩, ⟨h7, h8⟩, h9, h10⟩ := h
  exact ⟨h1.narrow hAB, h2.narrow hAB, h3.narrow hAB, h4.narrow hAB, ⟨h5.narrow hAB, h6.narrow hAB⟩, ⟨h7.narrow hAB, h8.narrow hAB⟩, h9.narrow hAB, h10.narrow hAB⟩
/-- what a method that only reckons starts from -/
def PC (A : Nat → Prop) (ad : Nat → Nat) (As : List Value) : Array Value → State → Prop := va_Pc As (fun U => FW A ad U U.heap)
theorem fw_blind {A : Nat → Prop} {ad : Nat → Nat} {As : List Value} : FrameBlind (PC A ad As) := fun a U g mk q => ⟨q.1, FW.moved (u := U) (U := U.calling g mk a) (Vm.Alike.refl U.vm) q.2⟩
theorem fw_pre {A : Nat → Prop} {ad : Nat → Nat} {As : List Value} {s : State} (h : FW A ad s s.heap) : PreS s s.heap (PC A ad As) As := ⟨fw_blind, fun U hU hW => ⟨rfl, show FW A ad U U.heap from by rw [hU]; exact FW.moved hW.alike h⟩⟩
theorem fw_preV {A : Nat → Prop} {ad : Nat → Nat} {As : List Value} {s : State} {i : Nat} (h : FW A ad s s.heap) (hi : i < 2) : PreV s s.heap nFm (ad i) (PC A ad (.ref (ad i) :: As)) As :=
  ⟨fw_blind, va_recvE (A := A) (locs := []) h.1 hi va_S.rf, fun U hU hW => ⟨rfl, show FW A ad U U.heap from by rw [hU]; exact FW.moved hW.alike h⟩⟩
/-- the facts of a walked method -/
def FX (p : Program) (s : State) (m : MethodId) (args : Array Value) (c : Code) (A : Nat → Prop) (ad : Nat → Nat) (cc : ByteArray) (nL : Nat) (own : String) : Prop :=
  p.tables.exec = Jvm.exec ∧ c.code = cc ∧ c.maxLocals = nL ∧ s.vm.findClass own = some m.cls ∧ (∀ w ∈ BT, w.before args s = true) ∧ FW A ad s s.heap
/-- the words of a static method, of a method of the forms -/
def SB (y : MethodName) (bytes : ByteArray) (maxL : Nat) (ret : Option FieldType) (n : Nat) : Prop :=
  Cond.code y bytes maxL ret ∈ BT ∧ Cond.static y ∈ BT ∧ Cond.initialized y.cls ∈ BT ∧ (y.cls ≠ "java/lang/invoke/MethodHandle" ∧ y.cls ≠ "java/lang/invoke/VarHandle" ∧ (parseMethodDescriptor y.desc).map (fun d => d.parameters.length) = some n)
def VB (y : MethodName) (bytes : ByteArray) (maxL : Nat) (ret : Option FieldType) (n : Nat) : Prop :=
  Cond.code y bytes maxL ret ∈ BT ∧ Cond.instanceMethod y ∈ BT ∧ Cond.selects nFm y y ∈ BT ∧ Cond.initialized y.cls ∈ BT ∧ (y.cls ≠ "java/lang/invoke/MethodHandle" ∧ y.cls ≠ "java/lang/invoke/VarHandle" ∧ (parseMethodDescriptor y.desc).map (fun d => d.parameters.length) = some n)
section PU1
variable {p : Program} {l : Launch} {e : Env} {R : Room} {s : State} {m : MethodId} {args : Array Value} {below : List Frame} {meth : Method} {c : Code} {locs : List Loc} {cells slots : Nat} {Q : State → Prop}
variable {A : Nat → Prop} {ad : Nat → Nat} {cc bytes : ByteArray} {nL maxL n index i pc : Nat} {own : String} {y : MethodName} {ret : Option FieldType} {rm : Room} {As rest st0 : List Value} {ls : Array Slot}
theorem bt_cb (hq : FX p s m args c A ad cc nL own) (hc : Cond.code y bytes maxL ret ∈ BT) (hi : Cond.initialized y.cls ∈ BT) (hd : y.cls ≠ "java/lang/invoke/MethodHandle" ∧ y.cls ≠ "java/lang/invoke/VarHandle" ∧ (parseMethodDescriptor y.desc).map (fun d => d.parameters.length) = some n)
    (hl : Cond.methodLink own index y ∈ BT) (hR : rm.frames + 1 ≤ R.frames ∧ 8 + (maxL + 11) + rm.locals ≤ R.locals) : CallB R s args own index y bytes maxL ret (Cond.code y bytes maxL ret :: BT) rm rm.cells rm.slots n :=
  callB_of n hq.2.2.2.2.1 (bt_GI hc) rfl rfl rfl (hq.2.2.2.2.1 _ hi) (hq.2.2.2.2.1 _ hl) hd hR
theorem fx_cf (hq : FX p s m args c A ad cc nL own) : CallFix p m c cc nL s args BT own := ⟨hq.1, hq.2.1, hq.2.2.1, hq.2.2.2.1, hq.2.2.2.2.1⟩
/-- a static method that answers a long -/
theorem sl_ {v : Int64} (hq : FX p s m args c A ad cc nL own) (hM : Met l y (Cond.code y bytes maxL ret :: BT) rm (PC A ad As) (vp_Sl (fun r => r = v)) 0 0 (fun _ => False)) (K : SB y bytes maxL ret n) (hl : Cond.methodLink own index y ∈ BT)
    (hrm : rm.cells = 0 ∧ rm.slots = 0 ∧ rm.frames + 1 ≤ R.frames ∧ 8 + (maxL + 11) + rm.locals ≤ R.locals) (hn : As.length = n) (hsize : ls.size = nL) (hstack : st0 = As.reverse ++ rest) (hW : (rest.map fun v => v.category).sum ≤ 8)
    (hdg : decode cc pc = .ok (.invokestatic index, 3)) (hf : cells ≤ R.cells ∧ slots ≤ R.slots) (kk : W p l e R s m args below meth c s.heap locs cells slots Q (F0 m (pc + 3) ls (.long v :: rest))) : W p l e R s m args below meth c s.heap locs cells slots Q (F0 m pc ls st0) := by
  obtain ⟨k1, k2, k3, k4⟩ := K
  obtain ⟨r1, r2, r3⟩ := hrm
  have cb := bt_cb (R := R) (rm := rm) hq k1 k3 k4 hl r3
  rw [r1, r2] at cb
  exact vp_callSl (W.runS (fx_cf hq) hM ⟨cb, hq.2.2.2.2.1 _ k2⟩ (fw_pre hq.2.2.2.2.2) rfl hn hsize hstack (lv_room hW) hdg hf) (fun r hr => by rw [hr]; exact kk)
theorem si_ {v : Int32} (hq : FX p s m args c A ad cc nL own) (hM : Met l y (Cond.code y bytes maxL ret :: BT) rm (PC A ad As) (vp_Si (fun r => r = v)) 0 0 (fun _ => False)) (K : SB y bytes maxL ret n) (hl : Cond.methodLink own index y ∈ BT)
    (hrm : rm.cells = 0 ∧ rm.slots = 0 ∧ rm.frames + 1 ≤ R.frames ∧ 8 + (maxL + 11) + rm.locals ≤ R.locals) (hn : As.length = n) (hsize : ls.size = nL) (hstack : st0 = As.reverse ++ rest) (hW : (rest.map fun v => v.category).sum ≤ 8)
    (hdg : decode cc pc = .ok (.invokestatic index, 3)) (hf : cells ≤ R.cells ∧ slots ≤ R.slots) (kk : W p l e R s m args below meth c s.heap locs cells slots Q (F0 m (pc + 3) ls (.int v :: rest))) : W p l e R s m args below meth c s.heap locs cells slots Q (F0 m pc ls st0) := by
  obtain ⟨k1, k2, k3, k4⟩ := K
  obtain ⟨r1, r2, r3⟩ := hrm
  have cb := bt_cb (R := R) (rm := rm) hq k1 k3 k4 hl r3
  rw [r1, r2] at cb
  exact vp_callSi (W.runS (fx_cf hq) hM ⟨cb, hq.2.2.2.2.1 _ k2⟩ (fw_pre hq.2.2.2.2.2) rfl hn hsize hstack (lv_room hW) hdg hf) (fun r hr => by rw [hr]; exact kk)
/-- a method of a form -/
theorem vl_ {v : Int64} (hq : FX p s m args c A ad cc nL own) (hi : i < 2) (hM : Met l y (Cond.code y bytes maxL ret :: BT) rm (PC A ad (.ref (ad i) :: As)) (vp_Sl (fun r => r = v)) 0 0 (fun _ => False)) (K : VB y bytes maxL ret n) (hl : Cond.methodLink own index y ∈ BT)
    (hrm : rm.cells = 0 ∧ rm.slots = 0 ∧ rm.frames + 1 ≤ R.frames ∧ 8 + (maxL + 11) + rm.locals ≤ R.locals) (hn : As.length = n) (hsize : ls.size = nL) (hstack : st0 = As.reverse ++ .ref (ad i) :: rest) (hW : (rest.map fun v => v.category).sum ≤ 8)
    (hdg : decode cc pc = .ok (.invokevirtual index, 3)) (hf : cells ≤ R.cells ∧ slots ≤ R.slots) (kk : W p l e R s m args below meth c s.heap locs cells slots Q (F0 m (pc + 3) ls (.long v :: rest))) : W p l e R s m args below meth c s.heap locs cells slots Q (F0 m pc ls st0) := by
  obtain ⟨k1, k2, k2', k3, k4⟩ := K
  obtain ⟨r1, r2, r3⟩ := hrm
  have cb := bt_cb (R := R) (rm := rm) hq k1 k3 k4 hl r3
  rw [r1, r2] at cb
  exact vp_callSl (W.runV (fx_cf hq) hM ⟨cb, hq.2.2.2.2.1 _ k2, hq.2.2.2.2.1 _ k2'⟩ (fw_preV hq.2.2.2.2.2 hi) rfl hn hsize hstack (lv_room hW) hdg hf) (fun r hr => by rw [hr]; exact kk)
theorem vi_ {v : Int32} (hq : FX p s m args c A ad cc nL own) (hi : i < 2) (hM : Met l y (Cond.code y bytes maxL ret :: BT) rm (PC A ad (.ref (ad i) :: As)) (vp_Si (fun r => r = v)) 0 0 (fun _ => False)) (K : VB y bytes maxL ret n) (hl : Cond.methodLink own index y ∈ BT)
    (hrm : rm.cells = 0 ∧ rm.slots = 0 ∧ rm.frames + 1 ≤ R.frames ∧ 8 + (maxL + 11) + rm.locals ≤ R.locals) (hn : As.length = n) (hsize : ls.size = nL) (hstack : st0 = As.reverse ++ .ref (ad i) :: rest) (hW : (rest.map fun v => v.category).sum ≤ 8)
    (hdg : decode cc pc = .ok (.invokevirtual index, 3)) (hf : cells ≤ R.cells ∧ slots ≤ R.slots) (kk : W p l e R s m args below meth c s.heap locs cells slots Q (F0 m (pc + 3) ls (.int v :: rest))) : W p l e R s m args below meth c s.heap locs cells slots Q (F0 m pc ls st0) := by
  obtain ⟨k1, k2, k2', k3, k4⟩ := K
  obtain ⟨r1, r2, r3⟩ := hrm
  have cb := bt_cb (R := R) (rm := rm) hq k1 k3 k4 hl r3
  rw [r1, r2] at cb
  exact vp_callSi (W.runV (fx_cf hq) hM ⟨cb, hq.2.2.2.2.1 _ k2, hq.2.2.2.2.1 _ k2'⟩ (fw_preV hq.2.2.2.2.2 hi) rfl hn hsize hstack (lv_room hW) hdg hf) (fun r hr => by rw [hr]; exact kk)
/-- the fields of a form -/
theorem gf_w (hq : FX p s m args c A ad cc nL own) (hi : i < 2) (hl : Cond.fieldLink own index nFm "width" "I" ∈ BT) (hdg : decode cc pc = .ok (.getfield index, 3)) (kk : W p l e R s m args below meth c s.heap [] cells slots Q (F0 m (pc + 3) ls (.int (fm_w i) :: rest))) : W p l e R s m args below meth c s.heap [] cells slots Q (F0 m pc ls (.ref (ad i) :: rest)) :=
  va_getE (q := (nFm, "width", "I", [32, 64])) hq.1 hq.2.1 hq.2.2.2.2.2.1 hi va_S.rf hq.2.2.2.1 (by simp [fmF]) (hq.2.2.2.2.1 _ hl) (fun _ h => h) hdg kk
theorem gf_f (hq : FX p s m args c A ad cc nL own) (hi : i < 2) (hl : Cond.fieldLink own index nFm "fractionBits" "I" ∈ BT) (hdg : decode cc pc = .ok (.getfield index, 3)) (kk : W p l e R s m args below meth c s.heap [] cells slots Q (F0 m (pc + 3) ls (.int (fm_f i) :: rest))) : W p l e R s m args below meth c s.heap [] cells slots Q (F0 m pc ls (.ref (ad i) :: rest)) :=
  va_getE (q := (nFm, "fractionBits", "I", [23, 52])) hq.1 hq.2.1 hq.2.2.2.2.2.1 hi va_S.rf hq.2.2.2.1 (by simp [fmF]) (hq.2.2.2.2.1 _ hl) (fun _ h => h) hdg kk
theorem gf_b (hq : FX p s m args c A ad cc nL own) (hi : i < 2) (hl : Cond.fieldLink own index nFm "bias" "I" ∈ BT) (hdg : decode cc pc = .ok (.getfield index, 3)) (kk : W p l e R s m args below meth c s.heap [] cells slots Q (F0 m (pc + 3) ls (.int (fm_b i) :: rest))) : W p l e R s m args below meth c s.heap [] cells slots Q (F0 m pc ls (.ref (ad i) :: rest)) :=
  va_getE (q := (nFm, "bias", "I", [127, 1023])) hq.1 hq.2.1 hq.2.2.2.2.2.1 hi va_S.rf hq.2.2.2.1 (by simp [fmF]) (hq.2.2.2.2.1 _ hl) (fun _ h => h) hdg kk
theorem gf_s (hq : FX p s m args c A ad cc nL own) (hi : i < 2) (hl : Cond.fieldLink own index nFm "signBit" "J" ∈ BT) (hdg : decode cc pc = .ok (.getfield index, 3)) (kk : W p l e R s m args below meth c s.heap [] cells slots Q (F0 m (pc + 3) ls (.long (fm_s i) :: rest))) : W p l e R s m args below meth c s.heap [] cells slots Q (F0 m pc ls (.ref (ad i) :: rest)) :=
  va_getX (v := fun i => .long (fm_s i)) hq.1 hq.2.1 hq.2.2.2.2.2.2.1 hi va_S.rf hq.2.2.2.1 (hq.2.2.2.2.1 _ hl) (fun _ h => h) hdg kk
theorem gf_i (hq : FX p s m args c A ad cc nL own) (hi : i < 2) (hl : Cond.fieldLink own index nFm "infinity" "J" ∈ BT) (hdg : decode cc pc = .ok (.getfield index, 3)) (kk : W p l e R s m args below meth c s.heap [] cells slots Q (F0 m (pc + 3) ls (.long (fm_i i) :: rest))) : W p l e R s m args below meth c s.heap [] cells slots Q (F0 m pc ls (.ref (ad i) :: rest)) :=
  va_getX (v := fun i => .long (fm_i i)) hq.1 hq.2.1 hq.2.2.2.2.2.2.2.1 hi va_S.rf hq.2.2.2.1 (hq.2.2.2.2.1 _ hl) (fun _ h => h) hdg kk
theorem gf_n (hq : FX p s m args c A ad cc nL own) (hi : i < 2) (hl : Cond.fieldLink own index nFm "noNumber" "J" ∈ BT) (hdg : decode cc pc = .ok (.getfield index, 3)) (kk : W p l e R s m args below meth c s.heap [] cells slots Q (F0 m (pc + 3) ls (.long (fm_n i) :: rest))) : W p l e R s m args below meth c s.heap [] cells slots Q (F0 m pc ls (.ref (ad i) :: rest)) :=
  va_getX (v := fun i => .long (fm_n i)) hq.1 hq.2.1 hq.2.2.2.2.2.2.2.2.1 hi va_S.rf hq.2.2.2.1 (hq.2.2.2.2.1 _ hl) (fun _ h => h) hdg kk
/-- the forms themselves -/
theorem gs_0 (hq : FX p s m args c A ad cc nL own) (hl : Cond.fieldLink own index nFm "OF_32" "LBitArithmetic$Form;" ∈ BT) (hdg : decode cc pc = .ok (.getstatic index, 3)) (kk : W p l e R s m args below meth c s.heap [] cells slots Q (F0 m (pc + 3) ls (.ref (ad 0) :: rest))) : W p l e R s m args below meth c s.heap [] cells slots Q (F0 m pc ls rest) :=
  va_gets (C := nFm) (n := "OF_32") (d := "LBitArithmetic$Form;") hq.1 hq.2.1 (hq.2.2.2.2.2.1.1 0 (by decide)).1 va_S.rf hq.2.2.2.1 (hq.2.2.2.2.1 _ hl) (fun _ h => h) hdg kk
theorem gs_1 (hq : FX p s m args c A ad cc nL own) (hl : Cond.fieldLink own index nFm "OF_64" "LBitArithmetic$Form;" ∈ BT) (hdg : decode cc pc = .ok (.getstatic index, 3)) (kk : W p l e R s m args below meth c s.heap [] cells slots Q (F0 m (pc + 3) ls (.ref (ad 1) :: rest))) : W p l e R s m args below meth c s.heap [] cells slots Q (F0 m pc ls rest) :=
  va_gets (C := nFm) (n := "OF_64") (d := "LBitArithmetic$Form;") hq.1 hq.2.1 (hq.2.2.2.2.2.1.1 1 (by decide)).1 va_S.rf hq.2.2.2.1 (hq.2.2.2.2.1 _ hl) (fun _ h => h) hdg kk
/-- the two tables -/
theorem gs_2 (hq : FX p s m args c A ad cc nL own) (hl : Cond.fieldLink own index nKd "CONVERTED_FROM" "[I" ∈ BT) (hdg : decode cc pc = .ok (.getstatic index, 3)) (kk : W p l e R s m args below meth c s.heap [] cells slots Q (F0 m (pc + 3) ls (.ref (ad 2) :: rest))) : W p l e R s m args below meth c s.heap [] cells slots Q (F0 m pc ls rest) :=
  va_gets (C := nKd) (n := "CONVERTED_FROM") (d := "[I") hq.1 hq.2.1 hq.2.2.2.2.2.2.2.2.2.1.1 va_S.rf hq.2.2.2.1 (hq.2.2.2.2.1 _ hl) (fun _ h => h) hdg kk
theorem gs_3 (hq : FX p s m args c A ad cc nL own) (hl : Cond.fieldLink own index nKd "CONVERTED_TO" "[I" ∈ BT) (hdg : decode cc pc = .ok (.getstatic index, 3)) (kk : W p l e R s m args below meth c s.heap [] cells slots Q (F0 m (pc + 3) ls (.ref (ad 3) :: rest))) : W p l e R s m args below meth c s.heap [] cells slots Q (F0 m pc ls rest) :=
  va_gets (C := nKd) (n := "CONVERTED_TO") (d := "[I") hq.1 hq.2.1 hq.2.2.2.2.2.2.2.2.2.2.1.1 va_S.rf hq.2.2.2.1 (hq.2.2.2.2.1 _ hl) (fun _ h => h) hdg kk
end PU1
section PU2
variable {l : Launch} {y : MethodName} {cc : ByteArray} {maxL : Nat} {ret : Option FieldType} {rm : Room} {Qc : Array Value → State → Outcome → State → Prop} {mc ms : Nat} {free : Addr → Prop} {As : List Value} {A : Nat → Prop} {ad : Nat → Nat}
/-- a contract out of a walk -/
theorem pm_ (hy : plainFor y = true) (hn : (lg_sl As).length ≤ maxL)
    (body : ∀ (p : Program) (e : Env) (s : State) (m : MethodId) (below : List Frame) (meth : Method) (c : Code), FX p s m As.toArray c A ad cc maxL y.cls → meth.sig.returnType = ret → meth.locks = false → ∀ ls : Array Slot, lv_has ls maxL (lv_args 0 As) →
      W p l e rm s m As.toArray below meth c s.heap [] 0 0 (MQ below Qc As.toArray s mc ms free) (F0 m 0 ls [])) : Met l y (Cond.code y cc maxL ret :: BT) rm (PC A ad As) Qc mc ms free := by
  refine MetFree.of_bodySF (code := cc) (maxLocals := maxL) (ret := ret) hy ?_ ?_
  · intro args s m h hn
    obtain ⟨meth, c, h1, h2, h3, h4, h5, h6, -, -⟩ := Cond.code_spec hn (atoms_spec (ws := Cond.code y cc maxL ret :: BT) h _ List.mem_cons_self)
    exact ⟨meth, c, h1, h2, h3, h4, h5, h6⟩
  · intro p e s m args below meth c s₁ B hml hv _
    obtain ⟨rfl, hF⟩ := hv
    have hts := atoms_spec (ws := Cond.code y cc maxL ret :: BT) B.pre
    have hh0 : s₁.heap = s.heap := by rw [B.state]; rfl
    have K := body p e s m below meth c ⟨B.exec, B.bytes, hml, findClass_of_methodNamed B.named, fun w h => hts w (List.mem_cons_of_mem _ h), hF⟩ B.returns B.notSynchronized _ (lv_entry As hn)
    rw [← lg_entry_eq] at K
    obtain ⟨t, a1, o, b1, b2, b3⟩ := K s₁ hh0 (Stand.of_body B)
    exact ⟨t, o, a1, b1, b2, ⟨b3.1, b3.2⟩⟩
end PU2
section PU3
variable {p : Program} {l : Launch} {e : Env} {R : Room} {s : State} {m : MethodId} {args : Array Value} {below : List Frame} {meth : Method} {c : Code} {cells slots pc : Nat} {cc : ByteArray} {ls : Array Slot}
/-- its ends -/
theorem rl_ {v w : Int64} (hx : p.tables.exec = Jvm.exec) (hb : c.code = cc) (hr : meth.sig.returnType = some .long) (hk : meth.locks = false) (hv : v = w) (hdg : decode cc pc = .ok (.lreturn, 1)) :
    W p l e R s m args below meth c s.heap [] cells slots (MQ below (vp_Sl (fun r => r = w)) args s cells slots (fun _ => False)) (F0 m pc ls [.long v]) :=
  W.lret hx hb hr (fun t ht _ => ⟨v, rfl, hv, ht⟩) (fun q hq => by cases hq) hdg
theorem ri_ {v w : Int32} (hx : p.tables.exec = Jvm.exec) (hb : c.code = cc) (hr : meth.sig.returnType = some .int) (hk : meth.locks = false) (hv : v = w) (hdg : decode cc pc = .ok (.ireturn, 1)) :
    W p l e R s m args below meth c s.heap [] cells slots (MQ below (vp_Si (fun r => r = w)) args s cells slots (fun _ => False)) (F0 m pc ls [.int v]) :=
  W.iret hx hb hr (fun t ht _ => ⟨v, rfl, hv, ht⟩) (fun q hq => by cases hq) hdg
theorem rz_ {v w : Int32} (hx : p.tables.exec = Jvm.exec) (hb : c.code = cc) (hr : meth.sig.returnType = some .boolean) (hk : meth.locks = false) (hn : narrow .boolean (.int v) = .int v) (hv : v = w) (hdg : decode cc pc = .ok (.ireturn, 1)) :
    W p l e R s m args below meth c s.heap [] cells slots (MQ below (vp_Si (fun r => r = w)) args s cells slots (fun _ => False)) (F0 m pc ls [.int v]) :=
  W.zret hx hb hr hn (fun t ht _ => ⟨v, rfl, hv, ht⟩) (fun q hq => by cases hq) hdg
end PU3
/-! rows for a switch's default, for throws -/
section TD1
variable {p : Program} {l : Launch} {e : Env} {R : Room} {s : State} {m : MethodId} {args : Array Value} {below : List Frame} {meth : Method} {c : Code} {H : Heap} {locs : List Loc} {cells slots : Nat} {Q : State → Prop}
variable {cc : ByteArray} {pc : Nat} {ls : Array Slot} {rest : List Value}
theorem tb_dflt (hexec : p.tables.exec = Jvm.exec) (hb : c.code = cc) {dflt lo hi : Int} {offs : Array Int} {len : Nat} {x : Int32} {tgt : Nat} (hdg : decode cc pc = .ok (.tableswitch dflt lo hi offs, len))
    (h : x.toInt < lo ∨ hi < x.toInt ∨ (¬ x.toInt < lo ∧ ¬ hi < x.toInt ∧ offs[(x.toInt - lo).toNat]? = some dflt)) (ht : (pc : Int) + dflt = (tgt : Int))
    (k : W p l e R s m args below meth c H locs cells slots Q (F0 m tgt ls rest)) : W p l e R s m args below meth c H locs cells slots Q (F0 m pc ls (.int x :: rest)) := by
  rcases h with h | h | ⟨h1, h2, h3⟩
  · exact lv_tableOut hexec hb hdg (Or.inl h) ht k
  · exact lv_tableOut hexec hb hdg (Or.inr h) ht k
  · exact lv_tableIn hexec hb hdg h1 h2 h3 ht k
end TD1
end
section
theorem wd_0 : Cond.constant "java/lang/Integer" 264 (65536) ∈ BT := bt_mem 211 (by decide +kernel)
theorem wd_1 : Cond.code y_Integer_numberOfLeadingZeros b_Integer_numberOfLeadingZeros 2 (some .int) ∈ BT := bt_mem 210 (by decide +kernel)
theorem wd_2 : Cond.static y_Integer_numberOfLeadingZeros ∈ BT := bt_mem 209 (by decide +kernel)
theorem wd_3 : Cond.initialized "java/lang/Integer" ∈ BT := bt_mem 47 (by decide +kernel)
theorem wd_4 : Cond.methodLink "java/lang/Long" 308 y_Integer_numberOfLeadingZeros ∈ BT := bt_mem 208 (by decide +kernel)
theorem wd_5 : Cond.code y_Long_numberOfLeadingZeros b_Long_numberOfLeadingZeros 3 (some .int) ∈ BT := bt_mem 207 (by decide +kernel)
theorem wd_6 : Cond.static y_Long_numberOfLeadingZeros ∈ BT := bt_mem 206 (by decide +kernel)
theorem wd_7 : Cond.initialized "java/lang/Long" ∈ BT := bt_mem 46 (by decide +kernel)
theorem wd_8 : Cond.code y_Math_max b_Math_max 2 (some .int) ∈ BT := bt_mem 214 (by decide +kernel)
theorem wd_9 : Cond.static y_Math_max ∈ BT := bt_mem 213 (by decide +kernel)
theorem wd_10 : Cond.initialized "java/lang/Math" ∈ BT := bt_mem 48 (by decide +kernel)
theorem wd_11 : Cond.code y_Long_compare b_Long_compare 4 (some .int) ∈ BT := bt_mem 299 (by decide +kernel)
theorem wd_12 : Cond.static y_Long_compare ∈ BT := bt_mem 298 (by decide +kernel)
theorem wd_13 : Cond.constantLong "java/lang/Long" 168 (-9223372036854775808) ∈ BT := bt_mem 296 (by decide +kernel)
theorem wd_14 : Cond.methodLink "java/lang/Long" 302 y_Long_compare ∈ BT := bt_mem 297 (by decide +kernel)
theorem wd_15 : Cond.code y_Long_compareUnsigned b_Long_compareUnsigned 4 (some .int) ∈ BT := bt_mem 295 (by decide +kernel)
theorem wd_16 : Cond.static y_Long_compareUnsigned ∈ BT := bt_mem 294 (by decide +kernel)
theorem wd_17 : Cond.code y_Integer_numberOfTrailingZeros b_Integer_numberOfTrailingZeros 2 (some .int) ∈ BT := bt_mem 335 (by decide +kernel)
theorem wd_18 : Cond.static y_Integer_numberOfTrailingZeros ∈ BT := bt_mem 334 (by decide +kernel)
theorem wd_19 : Cond.methodLink "java/lang/Long" 311 y_Integer_numberOfTrailingZeros ∈ BT := bt_mem 333 (by decide +kernel)
theorem wd_20 : Cond.code y_Long_numberOfTrailingZeros b_Long_numberOfTrailingZeros 3 (some .int) ∈ BT := bt_mem 332 (by decide +kernel)
theorem wd_21 : Cond.static y_Long_numberOfTrailingZeros ∈ BT := bt_mem 331 (by decide +kernel)
theorem wd_22 : Cond.constantLong "java/lang/Long" 314 (6148914691236517205) ∈ BT := bt_mem 339 (by decide +kernel)
theorem wd_23 : Cond.constantLong "java/lang/Long" 316 (3689348814741910323) ∈ BT := bt_mem 340 (by decide +kernel)
theorem wd_24 : Cond.constantLong "java/lang/Long" 318 (1085102592571150095) ∈ BT := bt_mem 341 (by decide +kernel)
theorem wd_25 : Cond.code y_Long_bitCount b_Long_bitCount 2 (some .int) ∈ BT := bt_mem 338 (by decide +kernel)
theorem wd_26 : Cond.static y_Long_bitCount ∈ BT := bt_mem 337 (by decide +kernel)
theorem wd_27 : Cond.code y_Integer_rotateLeft b_Integer_rotateLeft 2 (some .int) ∈ BT := bt_mem 377 (by decide +kernel)
theorem wd_28 : Cond.static y_Integer_rotateLeft ∈ BT := bt_mem 376 (by decide +kernel)
theorem wd_29 : Cond.code y_Long_rotateLeft b_Long_rotateLeft 3 (some .long) ∈ BT := bt_mem 380 (by decide +kernel)
theorem wd_30 : Cond.static y_Long_rotateLeft ∈ BT := bt_mem 379 (by decide +kernel)
theorem wd_31 : Cond.constantLong "java/lang/Math" 138 (4294967295) ∈ BT := bt_mem 436 (by decide +kernel)
theorem wd_32 : Cond.code y_Math_multiplyHigh b_Math_multiplyHigh 20 (some .long) ∈ BT := bt_mem 435 (by decide +kernel)
theorem wd_33 : Cond.static y_Math_multiplyHigh ∈ BT := bt_mem 434 (by decide +kernel)
theorem wd_34 : Cond.constantLong "BitArithmetic$Bits" 7 (4294967295) ∈ BT := bt_mem 225 (by decide +kernel)
theorem wd_35 : Cond.code y_Bits_lowest b_Bits_lowest 3 (some .long) ∈ BT := bt_mem 224 (by decide +kernel)
theorem wd_36 : Cond.static y_Bits_lowest ∈ BT := bt_mem 223 (by decide +kernel)
theorem wd_37 : Cond.initialized "BitArithmetic$Bits" ∈ BT := bt_mem 45 (by decide +kernel)
theorem wd_38 : Cond.code y_Bits_signed b_Bits_signed 3 (some .long) ∈ BT := bt_mem 197 (by decide +kernel)
theorem wd_39 : Cond.static y_Bits_signed ∈ BT := bt_mem 196 (by decide +kernel)
theorem wd_40 : Cond.code y_Bits_marked b_Bits_marked 4 (some .long) ∈ BT := bt_mem 418 (by decide +kernel)
theorem wd_41 : Cond.static y_Bits_marked ∈ BT := bt_mem 417 (by decide +kernel)
theorem wd_42 : Cond.methodLink "BitArithmetic$Bits" 9 y_Bits_marked ∈ BT := bt_mem 429 (by decide +kernel)
theorem wd_43 : Cond.code y_Bits_movedDown b_Bits_movedDown 3 (some .long) ∈ BT := bt_mem 428 (by decide +kernel)
theorem wd_44 : Cond.static y_Bits_movedDown ∈ BT := bt_mem 427 (by decide +kernel)
theorem wd_45 : Cond.fieldLink "BitArithmetic$Form" 39 nFm "signBit" "J" ∈ BT := bt_mem 727 (by decide +kernel)
theorem wd_46 : Cond.code y_Form_sign b_Form_sign 3 (some .long) ∈ BT := bt_mem 242 (by decide +kernel)
theorem wd_47 : Cond.instanceMethod y_Form_sign ∈ BT := bt_mem 240 (by decide +kernel)
theorem wd_48 : Cond.selects nFm y_Form_sign y_Form_sign ∈ BT := bt_mem 241 (by decide +kernel)
theorem wd_49 : Cond.initialized "BitArithmetic$Form" ∈ BT := bt_mem 44 (by decide +kernel)
theorem wd_50 : Cond.code y_Form_withoutSign b_Form_withoutSign 3 (some .long) ∈ BT := bt_mem 238 (by decide +kernel)
theorem wd_51 : Cond.instanceMethod y_Form_withoutSign ∈ BT := bt_mem 236 (by decide +kernel)
theorem wd_52 : Cond.selects nFm y_Form_withoutSign y_Form_withoutSign ∈ BT := bt_mem 237 (by decide +kernel)
theorem wd_53 : Cond.methodLink "BitArithmetic$Form" 49 y_Form_withoutSign ∈ BT := bt_mem 235 (by decide +kernel)
theorem wd_54 : Cond.fieldLink "BitArithmetic$Form" 43 nFm "infinity" "J" ∈ BT := bt_mem 725 (by decide +kernel)
theorem wd_55 : Cond.code y_Form_isNoNumber b_Form_isNoNumber 3 (some .boolean) ∈ BT := bt_mem 234 (by decide +kernel)
theorem wd_56 : Cond.instanceMethod y_Form_isNoNumber ∈ BT := bt_mem 232 (by decide +kernel)
theorem wd_57 : Cond.selects nFm y_Form_isNoNumber y_Form_isNoNumber ∈ BT := bt_mem 233 (by decide +kernel)
theorem wd_58 : Cond.code y_Form_isInfinite b_Form_isInfinite 3 (some .boolean) ∈ BT := bt_mem 246 (by decide +kernel)
theorem wd_59 : Cond.instanceMethod y_Form_isInfinite ∈ BT := bt_mem 244 (by decide +kernel)
theorem wd_60 : Cond.selects nFm y_Form_isInfinite y_Form_isInfinite ∈ BT := bt_mem 245 (by decide +kernel)
theorem wd_61 : Cond.code y_Form_isZero b_Form_isZero 3 (some .boolean) ∈ BT := bt_mem 250 (by decide +kernel)
theorem wd_62 : Cond.instanceMethod y_Form_isZero ∈ BT := bt_mem 248 (by decide +kernel)
theorem wd_63 : Cond.selects nFm y_Form_isZero y_Form_isZero ∈ BT := bt_mem 249 (by decide +kernel)
theorem wd_64 : Cond.fieldLink "BitArithmetic$Form" 33 nFm "fractionBits" "I" ∈ BT := bt_mem 726 (by decide +kernel)
theorem wd_65 : Cond.code y_Form_exponent b_Form_exponent 3 (some .int) ∈ BT := bt_mem 258 (by decide +kernel)
theorem wd_66 : Cond.instanceMethod y_Form_exponent ∈ BT := bt_mem 256 (by decide +kernel)
theorem wd_67 : Cond.selects nFm y_Form_exponent y_Form_exponent ∈ BT := bt_mem 257 (by decide +kernel)
theorem wd_68 : Cond.methodLink "BitArithmetic$Form" 53 y_Form_exponent ∈ BT := bt_mem 255 (by decide +kernel)
theorem wd_69 : Cond.code y_Form_significand b_Form_significand 7 (some .long) ∈ BT := bt_mem 254 (by decide +kernel)
theorem wd_70 : Cond.instanceMethod y_Form_significand ∈ BT := bt_mem 252 (by decide +kernel)
theorem wd_71 : Cond.selects nFm y_Form_significand y_Form_significand ∈ BT := bt_mem 253 (by decide +kernel)
theorem wd_72 : Cond.methodLink "BitArithmetic$Form" 57 y_Math_max ∈ BT := bt_mem 212 (by decide +kernel)
theorem wd_73 : Cond.fieldLink "BitArithmetic$Form" 36 nFm "bias" "I" ∈ BT := bt_mem 724 (by decide +kernel)
theorem wd_74 : Cond.code y_Form_scale b_Form_scale 3 (some .int) ∈ BT := bt_mem 262 (by decide +kernel)
theorem wd_75 : Cond.instanceMethod y_Form_scale ∈ BT := bt_mem 260 (by decide +kernel)
theorem wd_76 : Cond.selects nFm y_Form_scale y_Form_scale ∈ BT := bt_mem 261 (by decide +kernel)
theorem wd_77 : Cond.constantLong "BitArithmetic$Form" 72 (-9223372036854775808) ∈ BT := bt_mem 218 (by decide +kernel)
theorem wd_78 : Cond.code y_Form_nearest b_Form_nearest 4 (some .long) ∈ BT := bt_mem 217 (by decide +kernel)
theorem wd_79 : Cond.static y_Form_nearest ∈ BT := bt_mem 216 (by decide +kernel)
theorem wd_80 : Cond.methodLink "BitArithmetic$Form" 63 y_Long_numberOfLeadingZeros ∈ BT := bt_mem 205 (by decide +kernel)
theorem wd_81 : Cond.methodLink "BitArithmetic$Form" 68 y_Form_nearest ∈ BT := bt_mem 215 (by decide +kernel)
theorem wd_82 : Cond.code y_Form_rounded b_Form_rounded 16 (some .long) ∈ BT := bt_mem 204 (by decide +kernel)
theorem wd_83 : Cond.instanceMethod y_Form_rounded ∈ BT := bt_mem 202 (by decide +kernel)
theorem wd_84 : Cond.selects nFm y_Form_rounded y_Form_rounded ∈ BT := bt_mem 203 (by decide +kernel)
theorem wd_85 : Cond.code y_Operations_exists b_Operations_exists 1 (some .boolean) ∈ BT := bt_mem 78 (by decide +kernel)
theorem wd_86 : Cond.static y_Operations_exists ∈ BT := bt_mem 77 (by decide +kernel)
theorem wd_87 : Cond.initialized "BitArithmetic$Operations" ∈ BT := bt_mem 37 (by decide +kernel)
theorem wd_88 : Cond.code y_Operations_isTwin b_Operations_isTwin 1 (some .boolean) ∈ BT := bt_mem 97 (by decide +kernel)
theorem wd_89 : Cond.static y_Operations_isTwin ∈ BT := bt_mem 96 (by decide +kernel)
theorem wd_90 : Cond.methodLink "BitArithmetic$Operations" 7 y_Operations_isTwin ∈ BT := bt_mem 95 (by decide +kernel)
theorem wd_91 : Cond.code y_Operations_of32 b_Operations_of32 1 (some .int) ∈ BT := bt_mem 94 (by decide +kernel)
theorem wd_92 : Cond.static y_Operations_of32 ∈ BT := bt_mem 93 (by decide +kernel)
theorem wd_93 : Cond.methodLink "BitArithmetic$Wholes" 7 y_Long_compareUnsigned ∈ BT := bt_mem 321 (by decide +kernel)
theorem wd_94 : Cond.code y_Wholes_test b_Wholes_test 5 (some .boolean) ∈ BT := bt_mem 320 (by decide +kernel)
theorem wd_95 : Cond.static y_Wholes_test ∈ BT := bt_mem 319 (by decide +kernel)
theorem wd_96 : Cond.initialized "BitArithmetic$Wholes" ∈ BT := bt_mem 51 (by decide +kernel)
theorem wd_97 : Cond.methodLink "BitArithmetic$Wholes" 37 y_Long_numberOfLeadingZeros ∈ BT := bt_mem 329 (by decide +kernel)
theorem wd_98 : Cond.methodLink "BitArithmetic$Wholes" 41 y_Long_numberOfTrailingZeros ∈ BT := bt_mem 330 (by decide +kernel)
theorem wd_99 : Cond.methodLink "BitArithmetic$Wholes" 44 y_Long_bitCount ∈ BT := bt_mem 336 (by decide +kernel)
theorem wd_100 : Cond.code y_Wholes_counted b_Wholes_counted 4 (some .long) ∈ BT := bt_mem 328 (by decide +kernel)
theorem wd_101 : Cond.static y_Wholes_counted ∈ BT := bt_mem 327 (by decide +kernel)
theorem wd_102 : Cond.code y_Wholes_combined b_Wholes_combined 5 (some .long) ∈ BT := bt_mem 383 (by decide +kernel)
theorem wd_103 : Cond.static y_Wholes_combined ∈ BT := bt_mem 382 (by decide +kernel)
theorem wd_104 : Cond.code y_Wholes_unsignedQuotient b_Wholes_unsignedQuotient 8 (some .long) ∈ BT := bt_mem 368 (by decide +kernel)
theorem wd_105 : Cond.static y_Wholes_unsignedQuotient ∈ BT := bt_mem 367 (by decide +kernel)
theorem wd_106 : Cond.methodLink "BitArithmetic$Wholes" 78 y_Long_rotateLeft ∈ BT := bt_mem 378 (by decide +kernel)
theorem wd_107 : Cond.methodLink "BitArithmetic$Wholes" 72 y_Integer_rotateLeft ∈ BT := bt_mem 375 (by decide +kernel)
theorem wd_108 : Cond.code y_Wholes_turnedUp b_Wholes_turnedUp 4 (some .long) ∈ BT := bt_mem 374 (by decide +kernel)
theorem wd_109 : Cond.static y_Wholes_turnedUp ∈ BT := bt_mem 373 (by decide +kernel)
theorem wd_110 : Cond.methodLink "BitArithmetic$Wholes" 47 y_Bits_signed ∈ BT := bt_mem 345 (by decide +kernel)
theorem wd_111 : Cond.methodLink "BitArithmetic$Wholes" 13 y_Bits_lowest ∈ BT := bt_mem 325 (by decide +kernel)
theorem wd_112 : Cond.methodLink "BitArithmetic$Wholes" 68 y_Wholes_turnedUp ∈ BT := bt_mem 372 (by decide +kernel)
theorem wd_113 : Cond.code y_Wholes_moved b_Wholes_moved 5 (some .long) ∈ BT := bt_mem 371 (by decide +kernel)
theorem wd_114 : Cond.static y_Wholes_moved ∈ BT := bt_mem 370 (by decide +kernel)
theorem wd_115 : Cond.methodLink "BitArithmetic$Floats" 19 y_Form_sign ∈ BT := bt_mem 394 (by decide +kernel)
theorem wd_116 : Cond.methodLink "BitArithmetic$Floats" 23 y_Form_withoutSign ∈ BT := bt_mem 395 (by decide +kernel)
theorem wd_117 : Cond.code y_Floats_asWhole b_Floats_asWhole 3 (some .long) ∈ BT := bt_mem 393 (by decide +kernel)
theorem wd_118 : Cond.static y_Floats_asWhole ∈ BT := bt_mem 392 (by decide +kernel)
theorem wd_119 : Cond.initialized "BitArithmetic$Floats" ∈ BT := bt_mem 53 (by decide +kernel)
theorem wd_120 : Cond.methodLink "BitArithmetic$Floats" 7 y_Form_isNoNumber ∈ BT := bt_mem 390 (by decide +kernel)
theorem wd_121 : Cond.methodLink "BitArithmetic$Floats" 13 y_Floats_asWhole ∈ BT := bt_mem 391 (by decide +kernel)
theorem wd_122 : Cond.code y_Floats_test b_Floats_test 10 (some .boolean) ∈ BT := bt_mem 389 (by decide +kernel)
theorem wd_123 : Cond.static y_Floats_test ∈ BT := bt_mem 388 (by decide +kernel)
theorem wd_124 : Cond.methodLink "BitArithmetic$Floats" 56 y_Form_isZero ∈ BT := bt_mem 402 (by decide +kernel)
theorem wd_125 : Cond.code y_Floats_isBelow b_Floats_isBelow 5 (some .boolean) ∈ BT := bt_mem 445 (by decide +kernel)
theorem wd_126 : Cond.static y_Floats_isBelow ∈ BT := bt_mem 444 (by decide +kernel)
theorem wd_127 : Cond.methodLink "BitArithmetic$Floats" 65 y_Form_scale ∈ BT := bt_mem 407 (by decide +kernel)
theorem wd_128 : Cond.methodLink "BitArithmetic$Floats" 69 y_Form_significand ∈ BT := bt_mem 408 (by decide +kernel)
theorem wd_129 : Cond.methodLink "BitArithmetic$Floats" 72 y_Bits_movedDown ∈ BT := bt_mem 426 (by decide +kernel)
theorem wd_130 : Cond.methodLink "BitArithmetic$Floats" 78 y_Form_rounded ∈ BT := bt_mem 419 (by decide +kernel)
theorem wd_131 : Cond.code y_Floats_finiteSum b_Floats_finiteSum 12 (some .long) ∈ BT := bt_mem 425 (by decide +kernel)
theorem wd_132 : Cond.static y_Floats_finiteSum ∈ BT := bt_mem 424 (by decide +kernel)
theorem wd_133 : Cond.methodLink "BitArithmetic$Floats" 59 y_Form_isInfinite ∈ BT := bt_mem 403 (by decide +kernel)
theorem wd_134 : Cond.methodLink "BitArithmetic$Floats" 62 y_Floats_finiteSum ∈ BT := bt_mem 423 (by decide +kernel)
theorem wd_135 : Cond.fieldLink "BitArithmetic$Floats" 30 nFm "noNumber" "J" ∈ BT := bt_mem 733 (by decide +kernel)
theorem wd_136 : Cond.code y_Floats_sum b_Floats_sum 6 (some .long) ∈ BT := bt_mem 422 (by decide +kernel)
theorem wd_137 : Cond.static y_Floats_sum ∈ BT := bt_mem 421 (by decide +kernel)
theorem wd_138 : Cond.methodLink "BitArithmetic$Floats" 104 y_Long_numberOfLeadingZeros ∈ BT := bt_mem 409 (by decide +kernel)
theorem wd_139 : Cond.code y_Floats_raised b_Floats_raised 5 (some .long) ∈ BT := bt_mem 412 (by decide +kernel)
theorem wd_140 : Cond.static y_Floats_raised ∈ BT := bt_mem 411 (by decide +kernel)
theorem wd_141 : Cond.code y_Floats_raisedScale b_Floats_raisedScale 3 (some .int) ∈ BT := bt_mem 406 (by decide +kernel)
theorem wd_142 : Cond.static y_Floats_raisedScale ∈ BT := bt_mem 405 (by decide +kernel)
theorem wd_143 : Cond.fieldLink "BitArithmetic$Floats" 82 nFm "infinity" "J" ∈ BT := bt_mem 734 (by decide +kernel)
theorem wd_144 : Cond.methodLink "BitArithmetic$Floats" 85 y_Floats_raised ∈ BT := bt_mem 410 (by decide +kernel)
theorem wd_145 : Cond.methodLink "BitArithmetic$Floats" 88 y_Math_multiplyHigh ∈ BT := bt_mem 433 (by decide +kernel)
theorem wd_146 : Cond.methodLink "BitArithmetic$Floats" 94 y_Bits_marked ∈ BT := bt_mem 416 (by decide +kernel)
theorem wd_147 : Cond.methodLink "BitArithmetic$Floats" 97 y_Floats_raisedScale ∈ BT := bt_mem 404 (by decide +kernel)
theorem wd_148 : Cond.code y_Floats_product b_Floats_product 14 (some .long) ∈ BT := bt_mem 432 (by decide +kernel)
theorem wd_149 : Cond.static y_Floats_product ∈ BT := bt_mem 431 (by decide +kernel)
theorem wd_150 : Cond.code y_Steps_goesAway b_Steps_goesAway 3 (some .boolean) ∈ BT := bt_mem 458 (by decide +kernel)
theorem wd_151 : Cond.static y_Steps_goesAway ∈ BT := bt_mem 457 (by decide +kernel)
theorem wd_152 : Cond.initialized "BitArithmetic$Steps" ∈ BT := bt_mem 54 (by decide +kernel)
theorem wd_153 : Cond.code y_Steps_isNearerAway b_Steps_isNearerAway 8 (some .boolean) ∈ BT := bt_mem 464 (by decide +kernel)
theorem wd_154 : Cond.static y_Steps_isNearerAway ∈ BT := bt_mem 463 (by decide +kernel)
theorem wd_155 : Cond.methodLink "BitArithmetic$Steps" 34 y_Form_sign ∈ BT := bt_mem 454 (by decide +kernel)
theorem wd_156 : Cond.methodLink "BitArithmetic$Steps" 41 y_Steps_goesAway ∈ BT := bt_mem 456 (by decide +kernel)
theorem wd_157 : Cond.methodLink "BitArithmetic$Steps" 45 y_Steps_isNearerAway ∈ BT := bt_mem 462 (by decide +kernel)
theorem wd_158 : Cond.code y_Steps_fromOneOn b_Steps_fromOneOn 12 (some .long) ∈ BT := bt_mem 461 (by decide +kernel)
theorem wd_159 : Cond.static y_Steps_fromOneOn ∈ BT := bt_mem 460 (by decide +kernel)
theorem wd_160 : Cond.fieldLink "BitArithmetic$Steps" 17 nFm "bias" "I" ∈ BT := bt_mem 736 (by decide +kernel)
theorem wd_161 : Cond.fieldLink "BitArithmetic$Steps" 7 nFm "fractionBits" "I" ∈ BT := bt_mem 735 (by decide +kernel)
theorem wd_162 : Cond.methodLink "BitArithmetic$Steps" 38 y_Form_withoutSign ∈ BT := bt_mem 455 (by decide +kernel)
theorem wd_163 : Cond.code y_Steps_belowOne b_Steps_belowOne 11 (some .long) ∈ BT := bt_mem 453 (by decide +kernel)
theorem wd_164 : Cond.static y_Steps_belowOne ∈ BT := bt_mem 452 (by decide +kernel)
theorem wd_165 : Cond.methodLink "BitArithmetic$Steps" 13 y_Form_exponent ∈ BT := bt_mem 449 (by decide +kernel)
theorem wd_166 : Cond.methodLink "BitArithmetic$Steps" 20 y_Form_isZero ∈ BT := bt_mem 450 (by decide +kernel)
theorem wd_167 : Cond.methodLink "BitArithmetic$Steps" 30 y_Steps_fromOneOn ∈ BT := bt_mem 459 (by decide +kernel)
theorem wd_168 : Cond.methodLink "BitArithmetic$Steps" 24 y_Steps_belowOne ∈ BT := bt_mem 451 (by decide +kernel)
theorem wd_169 : Cond.code y_Steps_toWhole b_Steps_toWhole 5 (some .long) ∈ BT := bt_mem 448 (by decide +kernel)
theorem wd_170 : Cond.static y_Steps_toWhole ∈ BT := bt_mem 447 (by decide +kernel)
theorem wd_171 : Cond.methodLink "BitArithmetic$Conversions" 46 y_Form_rounded ∈ BT := bt_mem 201 (by decide +kernel)
theorem wd_172 : Cond.code y_Conversions_fromUnsigned b_Conversions_fromUnsigned 3 (some .long) ∈ BT := bt_mem 221 (by decide +kernel)
theorem wd_173 : Cond.static y_Conversions_fromUnsigned ∈ BT := bt_mem 220 (by decide +kernel)
theorem wd_174 : Cond.initialized "BitArithmetic$Conversions" ∈ BT := bt_mem 42 (by decide +kernel)
theorem wd_175 : Cond.methodLink "BitArithmetic$Conversions" 35 y_Conversions_fromUnsigned ∈ BT := bt_mem 219 (by decide +kernel)
theorem wd_176 : Cond.fieldLink "BitArithmetic$Conversions" 42 nFm "signBit" "J" ∈ BT := bt_mem 723 (by decide +kernel)
theorem wd_177 : Cond.code y_Conversions_fromSigned b_Conversions_fromSigned 3 (some .long) ∈ BT := bt_mem 200 (by decide +kernel)
theorem wd_178 : Cond.static y_Conversions_fromSigned ∈ BT := bt_mem 199 (by decide +kernel)
theorem wd_179 : Cond.methodLink "BitArithmetic$Conversions" 50 y_Form_isNoNumber ∈ BT := bt_mem 231 (by decide +kernel)
theorem wd_180 : Cond.methodLink "BitArithmetic$Conversions" 57 y_Form_sign ∈ BT := bt_mem 239 (by decide +kernel)
theorem wd_181 : Cond.methodLink "BitArithmetic$Conversions" 61 y_Form_isInfinite ∈ BT := bt_mem 243 (by decide +kernel)
theorem wd_182 : Cond.methodLink "BitArithmetic$Conversions" 67 y_Form_isZero ∈ BT := bt_mem 247 (by decide +kernel)
theorem wd_183 : Cond.methodLink "BitArithmetic$Conversions" 70 y_Form_significand ∈ BT := bt_mem 251 (by decide +kernel)
theorem wd_184 : Cond.methodLink "BitArithmetic$Conversions" 73 y_Form_scale ∈ BT := bt_mem 259 (by decide +kernel)
theorem wd_185 : Cond.fieldLink "BitArithmetic$Conversions" 64 nFm "infinity" "J" ∈ BT := bt_mem 729 (by decide +kernel)
theorem wd_186 : Cond.fieldLink "BitArithmetic$Conversions" 54 nFm "noNumber" "J" ∈ BT := bt_mem 728 (by decide +kernel)
theorem wd_187 : Cond.code y_Conversions_fromFloat b_Conversions_fromFloat 6 (some .long) ∈ BT := bt_mem 230 (by decide +kernel)
theorem wd_188 : Cond.static y_Conversions_fromFloat ∈ BT := bt_mem 229 (by decide +kernel)
theorem wd_189 : Cond.fieldLink "BitArithmetic$Conversions" 7 nFm "OF_32" "LBitArithmetic$Form;" ∈ BT := bt_mem 193 (by decide +kernel)
theorem wd_190 : Cond.methodLink "BitArithmetic$Conversions" 22 y_Bits_signed ∈ BT := bt_mem 195 (by decide +kernel)
theorem wd_191 : Cond.methodLink "BitArithmetic$Conversions" 31 y_Conversions_fromSigned ∈ BT := bt_mem 198 (by decide +kernel)
theorem wd_192 : Cond.methodLink "BitArithmetic$Conversions" 28 y_Bits_lowest ∈ BT := bt_mem 222 (by decide +kernel)
theorem wd_193 : Cond.fieldLink "BitArithmetic$Conversions" 19 nFm "OF_64" "LBitArithmetic$Form;" ∈ BT := bt_mem 226 (by decide +kernel)
theorem wd_194 : Cond.methodLink "BitArithmetic$Conversions" 38 y_Conversions_fromFloat ∈ BT := bt_mem 228 (by decide +kernel)
theorem wd_195 : Cond.code y_Conversions_toFloat b_Conversions_toFloat 3 (some .long) ∈ BT := bt_mem 192 (by decide +kernel)
theorem wd_196 : Cond.static y_Conversions_toFloat ∈ BT := bt_mem 191 (by decide +kernel)
theorem wd_197 : Cond.code y_Conversions_cutAmount b_Conversions_cutAmount 6 (some .long) ∈ BT := bt_mem 288 (by decide +kernel)
theorem wd_198 : Cond.static y_Conversions_cutAmount ∈ BT := bt_mem 287 (by decide +kernel)
theorem wd_199 : Cond.constantLong "BitArithmetic$Conversions" 112 (-1) ∈ BT := bt_mem 292 (by decide +kernel)
theorem wd_200 : Cond.code y_Conversions_greatest b_Conversions_greatest 5 (some .long) ∈ BT := bt_mem 291 (by decide +kernel)
theorem wd_201 : Cond.static y_Conversions_greatest ∈ BT := bt_mem 290 (by decide +kernel)
theorem wd_202 : Cond.code y_Floats_longDivision b_Floats_longDivision 9 (some .long) ∈ BT := bt_mem 442 (by decide +kernel)
theorem wd_203 : Cond.static y_Floats_longDivision ∈ BT := bt_mem 441 (by decide +kernel)
theorem wd_204 : Cond.code y_Floats_longRoot b_Floats_longRoot 11 (some .long) ∈ BT := bt_mem 415 (by decide +kernel)
theorem wd_205 : Cond.static y_Floats_longRoot ∈ BT := bt_mem 414 (by decide +kernel)
theorem wd_206 : Cond.methodLink "BitArithmetic$Floats" 101 y_Floats_longDivision ∈ BT := bt_mem 440 (by decide +kernel)
theorem wd_207 : Cond.code y_Floats_quotient b_Floats_quotient 10 (some .long) ∈ BT := bt_mem 439 (by decide +kernel)
theorem wd_208 : Cond.static y_Floats_quotient ∈ BT := bt_mem 438 (by decide +kernel)
theorem wd_209 : Cond.methodLink "BitArithmetic$Floats" 109 y_Floats_longRoot ∈ BT := bt_mem 413 (by decide +kernel)
theorem wd_210 : Cond.code y_Floats_root b_Floats_root 7 (some .long) ∈ BT := bt_mem 401 (by decide +kernel)
theorem wd_211 : Cond.static y_Floats_root ∈ BT := bt_mem 400 (by decide +kernel)
theorem wd_212 : Cond.fieldLink "BitArithmetic$Floats" 26 nFm "signBit" "J" ∈ BT := bt_mem 732 (by decide +kernel)
theorem wd_213 : Cond.methodLink "BitArithmetic$Floats" 33 y_Floats_root ∈ BT := bt_mem 399 (by decide +kernel)
theorem wd_214 : Cond.methodLink "BitArithmetic$Floats" 36 y_Floats_sum ∈ BT := bt_mem 420 (by decide +kernel)
theorem wd_215 : Cond.methodLink "BitArithmetic$Floats" 40 y_Floats_product ∈ BT := bt_mem 430 (by decide +kernel)
theorem wd_216 : Cond.methodLink "BitArithmetic$Floats" 43 y_Floats_quotient ∈ BT := bt_mem 437 (by decide +kernel)
theorem wd_217 : Cond.methodLink "BitArithmetic$Floats" 46 y_Floats_isBelow ∈ BT := bt_mem 443 (by decide +kernel)
theorem wd_218 : Cond.methodLink "BitArithmetic$Floats" 50 y_Steps_toWhole ∈ BT := bt_mem 446 (by decide +kernel)
theorem wd_219 : Cond.code y_Floats_calculate b_Floats_calculate 7 (some .long) ∈ BT := bt_mem 398 (by decide +kernel)
theorem wd_220 : Cond.static y_Floats_calculate ∈ BT := bt_mem 397 (by decide +kernel)
end
section
def q_Integer_numberOfLeadingZeros (a0 : Int32) : Int32 :=
  if 0 < a0 then
    if a0 < (65536 : Int32) then
      if a0 < (256 : Int32) then
        if a0 < (16 : Int32) then
          if a0 < (4 : Int32) then
            ((31 : Int32) - (iush_ a0 (1 : Int32)))
          else
            (((31 : Int32) + (-2 : Int32)) - (iush_ (iush_ a0 (2 : Int32)) (1 : Int32)))
        else
          if (iush_ a0 (4 : Int32)) < (4 : Int32) then
            (((31 : Int32) + (-4 : Int32)) - (iush_ (iush_ a0 (4 : Int32)) (1 : Int32)))
          else
            ((((31 : Int32) + (-4 : Int32)) + (-2 : Int32)) - (iush_ (iush_ (iush_ a0 (4 : Int32)) (2 : Int32)) (1 : Int32)))
      else
        if (iush_ a0 (8 : Int32)) < (16 : Int32) then
          if (iush_ a0 (8 : Int32)) < (4 : Int32) then
            (((31 : Int32) + (-8 : Int32)) - (iush_ (iush_ a0 (8 : Int32)) (1 : Int32)))
          else
            ((((31 : Int32) + (-8 : Int32)) + (-2 : Int32)) - (iush_ (iush_ (iush_ a0 (8 : Int32)) (2 : Int32)) (1 : Int32)))
        else
          if (iush_ (iush_ a0 (8 : Int32)) (4 : Int32)) < (4 : Int32) then
            ((((31 : Int32) + (-8 : Int32)) + (-4 : Int32)) - (iush_ (iush_ (iush_ a0 (8 : Int32)) (4 : Int32)) (1 : Int32)))
          else
            (((((31 : Int32) + (-8 : Int32)) + (-4 : Int32)) + (-2 : Int32)) - (iush_ (iush_ (iush_ (iush_ a0 (8 : Int32)) (4 : Int32)) (2 : Int32)) (1 : Int32)))
    else
      if (iush_ a0 (16 : Int32)) < (256 : Int32) then
        if (iush_ a0 (16 : Int32)) < (16 : Int32) then
          if (iush_ a0 (16 : Int32)) < (4 : Int32) then
            (((31 : Int32) + (-16 : Int32)) - (iush_ (iush_ a0 (16 : Int32)) (1 : Int32)))
          else
            ((((31 : Int32) + (-16 : Int32)) + (-2 : Int32)) - (iush_ (iush_ (iush_ a0 (16 : Int32)) (2 : Int32)) (1 : Int32)))
        else
          if (iush_ (iush_ a0 (16 : Int32)) (4 : Int32)) < (4 : Int32) then
            ((((31 : Int32) + (-16 : Int32)) + (-4 : Int32)) - (iush_ (iush_ (iush_ a0 (16 : Int32)) (4 : Int32)) (1 : Int32)))
          else
            (((((31 : Int32) + (-16 : Int32)) + (-4 : Int32)) + (-2 : Int32)) - (iush_ (iush_ (iush_ (iush_ a0 (16 : Int32)) (4 : Int32)) (2 : Int32)) (1 : Int32)))
      else
        if (iush_ (iush_ a0 (16 : Int32)) (8 : Int32)) < (16 : Int32) then
          if (iush_ (iush_ a0 (16 : Int32)) (8 : Int32)) < (4 : Int32) then
            ((((31 : Int32) + (-16 : Int32)) + (-8 : Int32)) - (iush_ (iush_ (iush_ a0 (16 : Int32)) (8 : Int32)) (1 : Int32)))
          else
            (((((31 : Int32) + (-16 : Int32)) + (-8 : Int32)) + (-2 : Int32)) - (iush_ (iush_ (iush_ (iush_ a0 (16 : Int32)) (8 : Int32)) (2 : Int32)) (1 : Int32)))
        else
          if (iush_ (iush_ (iush_ a0 (16 : Int32)) (8 : Int32)) (4 : Int32)) < (4 : Int32) then
            (((((31 : Int32) + (-16 : Int32)) + (-8 : Int32)) + (-4 : Int32)) - (iush_ (iush_ (iush_ (iush_ a0 (16 : Int32)) (8 : Int32)) (4 : Int32)) (1 : Int32)))
          else
            ((((((31 : Int32) + (-16 : Int32)) + (-8 : Int32)) + (-4 : Int32)) + (-2 : Int32)) - (iush_ (iush_ (iush_ (iush_ (iush_ a0 (16 : Int32)) (8 : Int32)) (4 : Int32)) (2 : Int32)) (1 : Int32)))
  else
    if a0 = 0 then
      (32 : Int32)
    else
      (0 : Int32)
theorem kB_Integer_numberOfLeadingZeros : SB y_Integer_numberOfLeadingZeros b_Integer_numberOfLeadingZeros 2 (some .int) 1 := ⟨wd_1, wd_2, wd_3, by decide +kernel⟩
set_option maxHeartbeats 4000000 in
set_option maxRecDepth 100000 in
theorem c_Integer_numberOfLeadingZeros (l : Launch) (A : Nat → Prop) (ad : Nat → Nat) (a0 : Int32) : Met l y_Integer_numberOfLeadingZeros (Cond.code y_Integer_numberOfLeadingZeros b_Integer_numberOfLeadingZeros 2 (some .int) :: BT) ({ frames := 0, cells := 0, slots := 0, locals := 0 }) (PC A ad [.int a0]) (vp_Si (fun r => r = q_Integer_numberOfLeadingZeros a0)) 0 0 (fun _ => False) := by
  refine pm_ (by decide +kernel) (Nat.le_of_ble_eq_true rfl) ?_
  intro p e s m below meth c hq hr hk ls hl
  have hx := hq.1
  have hb := hq.2.1
  have hts := hq.2.2.2.2.1
  have hl : lv_has ls 2 [(0, .int a0)] := hl
  refine lv_iload_n hx hb d_Integer_numberOfLeadingZeros_0 rfl (lv_at hl 0 rfl) ?_
  refine lv_if_gt (tgt := 15) hx hb d_Integer_numberOfLeadingZeros_1 (by decide) (fun c_1 => ?_) (fun c_1 => ?_)
  · refine lv_bipush (v := (31 : Int32)) hx hb d_Integer_numberOfLeadingZeros_15 (by decide) ?_
    refine lv_istore_n (lv' := [(1, .int (31 : Int32)), (0, .int a0)]) hx hb d_Integer_numberOfLeadingZeros_17 rfl hl (by decide) rfl (fun ls hl => ?_)
    refine lv_iload_n hx hb d_Integer_numberOfLeadingZeros_18 rfl (lv_at hl 1 rfl) ?_
    refine lv_ldcw (v := (65536 : Int32)) hx hb hq.2.2.2.1 (hts _ wd_0) d_Integer_numberOfLeadingZeros_19 ?_
    refine lv_icmp_lt (tgt := 33) hx hb d_Integer_numberOfLeadingZeros_22 (by decide) (fun c_2 => ?_) (fun c_2 => ?_)
    · refine lv_iload_n hx hb d_Integer_numberOfLeadingZeros_33 rfl (lv_at hl 1 rfl) ?_
      refine lv_sipush (v := (256 : Int32)) hx hb d_Integer_numberOfLeadingZeros_34 (by decide) ?_
      refine lv_icmp_lt (tgt := 48) hx hb d_Integer_numberOfLeadingZeros_37 (by decide) (fun c_3 => ?_) (fun c_3 => ?_)
      · refine lv_iload_n hx hb d_Integer_numberOfLeadingZeros_48 rfl (lv_at hl 1 rfl) ?_
        refine lv_bipush (v := (16 : Int32)) hx hb d_Integer_numberOfLeadingZeros_49 (by decide) ?_
        refine lv_icmp_lt (tgt := 61) hx hb d_Integer_numberOfLeadingZeros_51 (by decide) (fun c_4 => ?_) (fun c_4 => ?_)
        · refine lv_iload_n hx hb d_Integer_numberOfLeadingZeros_61 rfl (lv_at hl 1 rfl) ?_
          refine lv_iconst (v := (4 : Int32)) hx hb d_Integer_numberOfLeadingZeros_62 (by decide) ?_
          refine lv_icmp_lt (tgt := 73) hx hb d_Integer_numberOfLeadingZeros_63 (by decide) (fun c_5 => ?_) (fun c_5 => ?_)
          · refine lv_iload_n hx hb d_Integer_numberOfLeadingZeros_73 rfl (lv_at hl 0 rfl) ?_
            refine lv_iload_n hx hb d_Integer_numberOfLeadingZeros_74 rfl (lv_at hl 1 rfl) ?_
            refine lv_iconst (v := (1 : Int32)) hx hb d_Integer_numberOfLeadingZeros_75 (by decide) ?_
            refine lv_iushr (v := (iush_ a0 (1 : Int32))) hx hb d_Integer_numberOfLeadingZeros_76 rfl ?_
            refine lv_isub hx hb d_Integer_numberOfLeadingZeros_77 ?_
            exact ri_ hx hb hr hk (by rw [q_Integer_numberOfLeadingZeros, if_pos c_1, if_pos c_2, if_pos c_3, if_pos c_4, if_pos c_5]) d_Integer_numberOfLeadingZeros_78
          · refine lv_iinc (v := ((31 : Int32) + (-2 : Int32))) (lv' := [(1, .int ((31 : Int32) + (-2 : Int32))), (0, .int a0)]) hx hb d_Integer_numberOfLeadingZeros_66 hl (k := 0) rfl rfl (by decide) rfl (fun ls hl => ?_)
            refine lv_iload_n hx hb d_Integer_numberOfLeadingZeros_69 rfl (lv_at hl 1 rfl) ?_
            refine lv_iconst (v := (2 : Int32)) hx hb d_Integer_numberOfLeadingZeros_70 (by decide) ?_
            refine lv_iushr (v := (iush_ a0 (2 : Int32))) hx hb d_Integer_numberOfLeadingZeros_71 rfl ?_
            refine lv_istore_n (lv' := [(0, .int (iush_ a0 (2 : Int32))), (1, .int ((31 : Int32) + (-2 : Int32)))]) hx hb d_Integer_numberOfLeadingZeros_72 rfl hl (by decide) rfl (fun ls hl => ?_)
            refine lv_iload_n hx hb d_Integer_numberOfLeadingZeros_73 rfl (lv_at hl 1 rfl) ?_
            refine lv_iload_n hx hb d_Integer_numberOfLeadingZeros_74 rfl (lv_at hl 0 rfl) ?_
            refine lv_iconst (v := (1 : Int32)) hx hb d_Integer_numberOfLeadingZeros_75 (by decide) ?_
            refine lv_iushr (v := (iush_ (iush_ a0 (2 : Int32)) (1 : Int32))) hx hb d_Integer_numberOfLeadingZeros_76 rfl ?_
            refine lv_isub hx hb d_Integer_numberOfLeadingZeros_77 ?_
            exact ri_ hx hb hr hk (by rw [q_Integer_numberOfLeadingZeros, if_pos c_1, if_pos c_2, if_pos c_3, if_pos c_4, if_neg c_5]) d_Integer_numberOfLeadingZeros_78
        · refine lv_iinc (v := ((31 : Int32) + (-4 : Int32))) (lv' := [(1, .int ((31 : Int32) + (-4 : Int32))), (0, .int a0)]) hx hb d_Integer_numberOfLeadingZeros_54 hl (k := 0) rfl rfl (by decide) rfl (fun ls hl => ?_)
          refine lv_iload_n hx hb d_Integer_numberOfLeadingZeros_57 rfl (lv_at hl 1 rfl) ?_
          refine lv_iconst (v := (4 : Int32)) hx hb d_Integer_numberOfLeadingZeros_58 (by decide) ?_
          refine lv_iushr (v := (iush_ a0 (4 : Int32))) hx hb d_Integer_numberOfLeadingZeros_59 rfl ?_
          refine lv_istore_n (lv' := [(0, .int (iush_ a0 (4 : Int32))), (1, .int ((31 : Int32) + (-4 : Int32)))]) hx hb d_Integer_numberOfLeadingZeros_60 rfl hl (by decide) rfl (fun ls hl => ?_)
          refine lv_iload_n hx hb d_Integer_numberOfLeadingZeros_61 rfl (lv_at hl 0 rfl) ?_
          refine lv_iconst (v := (4 : Int32)) hx hb d_Integer_numberOfLeadingZeros_62 (by decide) ?_
          refine lv_icmp_lt (tgt := 73) hx hb d_Integer_numberOfLeadingZeros_63 (by decide) (fun c_6 => ?_) (fun c_6 => ?_)
          · refine lv_iload_n hx hb d_Integer_numberOfLeadingZeros_73 rfl (lv_at hl 1 rfl) ?_
            refine lv_iload_n hx hb d_Integer_numberOfLeadingZeros_74 rfl (lv_at hl 0 rfl) ?_
            refine lv_iconst (v := (1 : Int32)) hx hb d_Integer_numberOfLeadingZeros_75 (by decide) ?_
            refine lv_iushr (v := (iush_ (iush_ a0 (4 : Int32)) (1 : Int32))) hx hb d_Integer_numberOfLeadingZeros_76 rfl ?_
            refine lv_isub hx hb d_Integer_numberOfLeadingZeros_77 ?_
            exact ri_ hx hb hr hk (by rw [q_Integer_numberOfLeadingZeros, if_pos c_1, if_pos c_2, if_pos c_3, if_neg c_4, if_pos c_6]) d_Integer_numberOfLeadingZeros_78
          · refine lv_iinc (v := (((31 : Int32) + (-4 : Int32)) + (-2 : Int32))) (lv' := [(1, .int (((31 : Int32) + (-4 : Int32)) + (-2 : Int32))), (0, .int (iush_ a0 (4 : Int32)))]) hx hb d_Integer_numberOfLeadingZeros_66 hl (k := 1) rfl rfl (by decide) rfl (fun ls hl => ?_)
            refine lv_iload_n hx hb d_Integer_numberOfLeadingZeros_69 rfl (lv_at hl 1 rfl) ?_
            refine lv_iconst (v := (2 : Int32)) hx hb d_Integer_numberOfLeadingZeros_70 (by decide) ?_
            refine lv_iushr (v := (iush_ (iush_ a0 (4 : Int32)) (2 : Int32))) hx hb d_Integer_numberOfLeadingZeros_71 rfl ?_
            refine lv_istore_n (lv' := [(0, .int (iush_ (iush_ a0 (4 : Int32)) (2 : Int32))), (1, .int (((31 : Int32) + (-4 : Int32)) + (-2 : Int32)))]) hx hb d_Integer_numberOfLeadingZeros_72 rfl hl (by decide) rfl (fun ls hl => ?_)
            refine lv_iload_n hx hb d_Integer_numberOfLeadingZeros_73 rfl (lv_at hl 1 rfl) ?_
            refine lv_iload_n hx hb d_Integer_numberOfLeadingZeros_74 rfl (lv_at hl 0 rfl) ?_
            refine lv_iconst (v := (1 : Int32)) hx hb d_Integer_numberOfLeadingZeros_75 (by decide) ?_
            refine lv_iushr (v := (iush_ (iush_ (iush_ a0 (4 : Int32)) (2 : Int32)) (1 : Int32))) hx hb d_Integer_numberOfLeadingZeros_76 rfl ?_
            refine lv_isub hx hb d_Integer_numberOfLeadingZeros_77 ?_
            exact ri_ hx hb hr hk (by rw [q_Integer_numberOfLeadingZeros, if_pos c_1, if_pos c_2, if_pos c_3, if_neg c_4, if_neg c_6]) d_Integer_numberOfLeadingZeros_78
      · refine lv_iinc (v := ((31 : Int32) + (-8 : Int32))) (lv' := [(1, .int ((31 : Int32) + (-8 : Int32))), (0, .int a0)]) hx hb d_Integer_numberOfLeadingZeros_40 hl (k := 0) rfl rfl (by decide) rfl (fun ls hl => ?_)
        refine lv_iload_n hx hb d_Integer_numberOfLeadingZeros_43 rfl (lv_at hl 1 rfl) ?_
        refine lv_bipush (v := (8 : Int32)) hx hb d_Integer_numberOfLeadingZeros_44 (by decide) ?_
        refine lv_iushr (v := (iush_ a0 (8 : Int32))) hx hb d_Integer_numberOfLeadingZeros_46 rfl ?_
        refine lv_istore_n (lv' := [(0, .int (iush_ a0 (8 : Int32))), (1, .int ((31 : Int32) + (-8 : Int32)))]) hx hb d_Integer_numberOfLeadingZeros_47 rfl hl (by decide) rfl (fun ls hl => ?_)
        refine lv_iload_n hx hb d_Integer_numberOfLeadingZeros_48 rfl (lv_at hl 0 rfl) ?_
        refine lv_bipush (v := (16 : Int32)) hx hb d_Integer_numberOfLeadingZeros_49 (by decide) ?_
        refine lv_icmp_lt (tgt := 61) hx hb d_Integer_numberOfLeadingZeros_51 (by decide) (fun c_7 => ?_) (fun c_7 => ?_)
        · refine lv_iload_n hx hb d_Integer_numberOfLeadingZeros_61 rfl (lv_at hl 0 rfl) ?_
          refine lv_iconst (v := (4 : Int32)) hx hb d_Integer_numberOfLeadingZeros_62 (by decide) ?_
          refine lv_icmp_lt (tgt := 73) hx hb d_Integer_numberOfLeadingZeros_63 (by decide) (fun c_8 => ?_) (fun c_8 => ?_)
          · refine lv_iload_n hx hb d_Integer_numberOfLeadingZeros_73 rfl (lv_at hl 1 rfl) ?_
            refine lv_iload_n hx hb d_Integer_numberOfLeadingZeros_74 rfl (lv_at hl 0 rfl) ?_
            refine lv_iconst (v := (1 : Int32)) hx hb d_Integer_numberOfLeadingZeros_75 (by decide) ?_
            refine lv_iushr (v := (iush_ (iush_ a0 (8 : Int32)) (1 : Int32))) hx hb d_Integer_numberOfLeadingZeros_76 rfl ?_
            refine lv_isub hx hb d_Integer_numberOfLeadingZeros_77 ?_
            exact ri_ hx hb hr hk (by rw [q_Integer_numberOfLeadingZeros, if_pos c_1, if_pos c_2, if_neg c_3, if_pos c_7, if_pos c_8]) d_Integer_numberOfLeadingZeros_78
          · refine lv_iinc (v := (((31 : Int32) + (-8 : Int32)) + (-2 : Int32))) (lv' := [(1, .int (((31 : Int32) + (-8 : Int32)) + (-2 : Int32))), (0, .int (iush_ a0 (8 : Int32)))]) hx hb d_Integer_numberOfLeadingZeros_66 hl (k := 1) rfl rfl (by decide) rfl (fun ls hl => ?_)
            refine lv_iload_n hx hb d_Integer_numberOfLeadingZeros_69 rfl (lv_at hl 1 rfl) ?_
            refine lv_iconst (v := (2 : Int32)) hx hb d_Integer_numberOfLeadingZeros_70 (by decide) ?_
            refine lv_iushr (v := (iush_ (iush_ a0 (8 : Int32)) (2 : Int32))) hx hb d_Integer_numberOfLeadingZeros_71 rfl ?_
            refine lv_istore_n (lv' := [(0, .int (iush_ (iush_ a0 (8 : Int32)) (2 : Int32))), (1, .int (((31 : Int32) + (-8 : Int32)) + (-2 : Int32)))]) hx hb d_Integer_numberOfLeadingZeros_72 rfl hl (by decide) rfl (fun ls hl => ?_)
            refine lv_iload_n hx hb d_Integer_numberOfLeadingZeros_73 rfl (lv_at hl 1 rfl) ?_
            refine lv_iload_n hx hb d_Integer_numberOfLeadingZeros_74 rfl (lv_at hl 0 rfl) ?_
            refine lv_iconst (v := (1 : Int32)) hx hb d_Integer_numberOfLeadingZeros_75 (by decide) ?_
            refine lv_iushr (v := (iush_ (iush_ (iush_ a0 (8 : Int32)) (2 : Int32)) (1 : Int32))) hx hb d_Integer_numberOfLeadingZeros_76 rfl ?_
            refine lv_isub hx hb d_Integer_numberOfLeadingZeros_77 ?_
            exact ri_ hx hb hr hk (by rw [q_Integer_numberOfLeadingZeros, if_pos c_1, if_pos c_2, if_neg c_3, if_pos c_7, if_neg c_8]) d_Integer_numberOfLeadingZeros_78
        · refine lv_iinc (v := (((31 : Int32) + (-8 : Int32)) + (-4 : Int32))) (lv' := [(1, .int (((31 : Int32) + (-8 : Int32)) + (-4 : Int32))), (0, .int (iush_ a0 (8 : Int32)))]) hx hb d_Integer_numberOfLeadingZeros_54 hl (k := 1) rfl rfl (by decide) rfl (fun ls hl => ?_)
          refine lv_iload_n hx hb d_Integer_numberOfLeadingZeros_57 rfl (lv_at hl 1 rfl) ?_
          refine lv_iconst (v := (4 : Int32)) hx hb d_Integer_numberOfLeadingZeros_58 (by decide) ?_
          refine lv_iushr (v := (iush_ (iush_ a0 (8 : Int32)) (4 : Int32))) hx hb d_Integer_numberOfLeadingZeros_59 rfl ?_
          refine lv_istore_n (lv' := [(0, .int (iush_ (iush_ a0 (8 : Int32)) (4 : Int32))), (1, .int (((31 : Int32) + (-8 : Int32)) + (-4 : Int32)))]) hx hb d_Integer_numberOfLeadingZeros_60 rfl hl (by decide) rfl (fun ls hl => ?_)
          refine lv_iload_n hx hb d_Integer_numberOfLeadingZeros_61 rfl (lv_at hl 0 rfl) ?_
          refine lv_iconst (v := (4 : Int32)) hx hb d_Integer_numberOfLeadingZeros_62 (by decide) ?_
          refine lv_icmp_lt (tgt := 73) hx hb d_Integer_numberOfLeadingZeros_63 (by decide) (fun c_9 => ?_) (fun c_9 => ?_)
          · refine lv_iload_n hx hb d_Integer_numberOfLeadingZeros_73 rfl (lv_at hl 1 rfl) ?_
            refine lv_iload_n hx hb d_Integer_numberOfLeadingZeros_74 rfl (lv_at hl 0 rfl) ?_
            refine lv_iconst (v := (1 : Int32)) hx hb d_Integer_numberOfLeadingZeros_75 (by decide) ?_
            refine lv_iushr (v := (iush_ (iush_ (iush_ a0 (8 : Int32)) (4 : Int32)) (1 : Int32))) hx hb d_Integer_numberOfLeadingZeros_76 rfl ?_
            refine lv_isub hx hb d_Integer_numberOfLeadingZeros_77 ?_
            exact ri_ hx hb hr hk (by rw [q_Integer_numberOfLeadingZeros, if_pos c_1, if_pos c_2, if_neg c_3, if_neg c_7, if_pos c_9]) d_Integer_numberOfLeadingZeros_78
          · refine lv_iinc (v := ((((31 : Int32) + (-8 : Int32)) + (-4 : Int32)) + (-2 : Int32))) (lv' := [(1, .int ((((31 : Int32) + (-8 : Int32)) + (-4 : Int32)) + (-2 : Int32))), (0, .int (iush_ (iush_ a0 (8 : Int32)) (4 : Int32)))]) hx hb d_Integer_numberOfLeadingZeros_66 hl (k := 1) rfl rfl (by decide) rfl (fun ls hl => ?_)
            refine lv_iload_n hx hb d_Integer_numberOfLeadingZeros_69 rfl (lv_at hl 1 rfl) ?_
            refine lv_iconst (v := (2 : Int32)) hx hb d_Integer_numberOfLeadingZeros_70 (by decide) ?_
            refine lv_iushr (v := (iush_ (iush_ (iush_ a0 (8 : Int32)) (4 : Int32)) (2 : Int32))) hx hb d_Integer_numberOfLeadingZeros_71 rfl ?_
            refine lv_istore_n (lv' := [(0, .int (iush_ (iush_ (iush_ a0 (8 : Int32)) (4 : Int32)) (2 : Int32))), (1, .int ((((31 : Int32) + (-8 : Int32)) + (-4 : Int32)) + (-2 : Int32)))]) hx hb d_Integer_numberOfLeadingZeros_72 rfl hl (by decide) rfl (fun ls hl => ?_)
            refine lv_iload_n hx hb d_Integer_numberOfLeadingZeros_73 rfl (lv_at hl 1 rfl) ?_
            refine lv_iload_n hx hb d_Integer_numberOfLeadingZeros_74 rfl (lv_at hl 0 rfl) ?_
            refine lv_iconst (v := (1 : Int32)) hx hb d_Integer_numberOfLeadingZeros_75 (by decide) ?_
            refine lv_iushr (v := (iush_ (iush_ (iush_ (iush_ a0 (8 : Int32)) (4 : Int32)) (2 : Int32)) (1 : Int32))) hx hb d_Integer_numberOfLeadingZeros_76 rfl ?_
            refine lv_isub hx hb d_Integer_numberOfLeadingZeros_77 ?_
            exact ri_ hx hb hr hk (by rw [q_Integer_numberOfLeadingZeros, if_pos c_1, if_pos c_2, if_neg c_3, if_neg c_7, if_neg c_9]) d_Integer_numberOfLeadingZeros_78
    · refine lv_iinc (v := ((31 : Int32) + (-16 : Int32))) (lv' := [(1, .int ((31 : Int32) + (-16 : Int32))), (0, .int a0)]) hx hb d_Integer_numberOfLeadingZeros_25 hl (k := 0) rfl rfl (by decide) rfl (fun ls hl => ?_)
      refine lv_iload_n hx hb d_Integer_numberOfLeadingZeros_28 rfl (lv_at hl 1 rfl) ?_
      refine lv_bipush (v := (16 : Int32)) hx hb d_Integer_numberOfLeadingZeros_29 (by decide) ?_
      refine lv_iushr (v := (iush_ a0 (16 : Int32))) hx hb d_Integer_numberOfLeadingZeros_31 rfl ?_
      refine lv_istore_n (lv' := [(0, .int (iush_ a0 (16 : Int32))), (1, .int ((31 : Int32) + (-16 : Int32)))]) hx hb d_Integer_numberOfLeadingZeros_32 rfl hl (by decide) rfl (fun ls hl => ?_)
      refine lv_iload_n hx hb d_Integer_numberOfLeadingZeros_33 rfl (lv_at hl 0 rfl) ?_
      refine lv_sipush (v := (256 : Int32)) hx hb d_Integer_numberOfLeadingZeros_34 (by decide) ?_
      refine lv_icmp_lt (tgt := 48) hx hb d_Integer_numberOfLeadingZeros_37 (by decide) (fun c_10 => ?_) (fun c_10 => ?_)
      · refine lv_iload_n hx hb d_Integer_numberOfLeadingZeros_48 rfl (lv_at hl 0 rfl) ?_
        refine lv_bipush (v := (16 : Int32)) hx hb d_Integer_numberOfLeadingZeros_49 (by decide) ?_
        refine lv_icmp_lt (tgt := 61) hx hb d_Integer_numberOfLeadingZeros_51 (by decide) (fun c_11 => ?_) (fun c_11 => ?_)
        · refine lv_iload_n hx hb d_Integer_numberOfLeadingZeros_61 rfl (lv_at hl 0 rfl) ?_
          refine lv_iconst (v := (4 : Int32)) hx hb d_Integer_numberOfLeadingZeros_62 (by decide) ?_
          refine lv_icmp_lt (tgt := 73) hx hb d_Integer_numberOfLeadingZeros_63 (by decide) (fun c_12 => ?_) (fun c_12 => ?_)
          · refine lv_iload_n hx hb d_Integer_numberOfLeadingZeros_73 rfl (lv_at hl 1 rfl) ?_
            refine lv_iload_n hx hb d_Integer_numberOfLeadingZeros_74 rfl (lv_at hl 0 rfl) ?_
            refine lv_iconst (v := (1 : Int32)) hx hb d_Integer_numberOfLeadingZeros_75 (by decide) ?_
            refine lv_iushr (v := (iush_ (iush_ a0 (16 : Int32)) (1 : Int32))) hx hb d_Integer_numberOfLeadingZeros_76 rfl ?_
            refine lv_isub hx hb d_Integer_numberOfLeadingZeros_77 ?_
            exact ri_ hx hb hr hk (by rw [q_Integer_numberOfLeadingZeros, if_pos c_1, if_neg c_2, if_pos c_10, if_pos c_11, if_pos c_12]) d_Integer_numberOfLeadingZeros_78
          · refine lv_iinc (v := (((31 : Int32) + (-16 : Int32)) + (-2 : Int32))) (lv' := [(1, .int (((31 : Int32) + (-16 : Int32)) + (-2 : Int32))), (0, .int (iush_ a0 (16 : Int32)))]) hx hb d_Integer_numberOfLeadingZeros_66 hl (k := 1) rfl rfl (by decide) rfl (fun ls hl => ?_)
            refine lv_iload_n hx hb d_Integer_numberOfLeadingZeros_69 rfl (lv_at hl 1 rfl) ?_
            refine lv_iconst (v := (2 : Int32)) hx hb d_Integer_numberOfLeadingZeros_70 (by decide) ?_
            refine lv_iushr (v := (iush_ (iush_ a0 (16 : Int32)) (2 : Int32))) hx hb d_Integer_numberOfLeadingZeros_71 rfl ?_
            refine lv_istore_n (lv' := [(0, .int (iush_ (iush_ a0 (16 : Int32)) (2 : Int32))), (1, .int (((31 : Int32) + (-16 : Int32)) + (-2 : Int32)))]) hx hb d_Integer_numberOfLeadingZeros_72 rfl hl (by decide) rfl (fun ls hl => ?_)
            refine lv_iload_n hx hb d_Integer_numberOfLeadingZeros_73 rfl (lv_at hl 1 rfl) ?_
            refine lv_iload_n hx hb d_Integer_numberOfLeadingZeros_74 rfl (lv_at hl 0 rfl) ?_
            refine lv_iconst (v := (1 : Int32)) hx hb d_Integer_numberOfLeadingZeros_75 (by decide) ?_
            refine lv_iushr (v := (iush_ (iush_ (iush_ a0 (16 : Int32)) (2 : Int32)) (1 : Int32))) hx hb d_Integer_numberOfLeadingZeros_76 rfl ?_
            refine lv_isub hx hb d_Integer_numberOfLeadingZeros_77 ?_
            exact ri_ hx hb hr hk (by rw [q_Integer_numberOfLeadingZeros, if_pos c_1, if_neg c_2, if_pos c_10, if_pos c_11, if_neg c_12]) d_Integer_numberOfLeadingZeros_78
        · refine lv_iinc (v := (((31 : Int32) + (-16 : Int32)) + (-4 : Int32))) (lv' := [(1, .int (((31 : Int32) + (-16 : Int32)) + (-4 : Int32))), (0, .int (iush_ a0 (16 : Int32)))]) hx hb d_Integer_numberOfLeadingZeros_54 hl (k := 1) rfl rfl (by decide) rfl (fun ls hl => ?_)
          refine lv_iload_n hx hb d_Integer_numberOfLeadingZeros_57 rfl (lv_at hl 1 rfl) ?_
          refine lv_iconst (v := (4 : Int32)) hx hb d_Integer_numberOfLeadingZeros_58 (by decide) ?_
          refine lv_iushr (v := (iush_ (iush_ a0 (16 : Int32)) (4 : Int32))) hx hb d_Integer_numberOfLeadingZeros_59 rfl ?_
          refine lv_istore_n (lv' := [(0, .int (iush_ (iush_ a0 (16 : Int32)) (4 : Int32))), (1, .int (((31 : Int32) + (-16 : Int32)) + (-4 : Int32)))]) hx hb d_Integer_numberOfLeadingZeros_60 rfl hl (by decide) rfl (fun ls hl => ?_)
          refine lv_iload_n hx hb d_Integer_numberOfLeadingZeros_61 rfl (lv_at hl 0 rfl) ?_
          refine lv_iconst (v := (4 : Int32)) hx hb d_Integer_numberOfLeadingZeros_62 (by decide) ?_
          refine lv_icmp_lt (tgt := 73) hx hb d_Integer_numberOfLeadingZeros_63 (by decide) (fun c_13 => ?_) (fun c_13 => ?_)
          · refine lv_iload_n hx hb d_Integer_numberOfLeadingZeros_73 rfl (lv_at hl 1 rfl) ?_
            refine lv_iload_n hx hb d_Integer_numberOfLeadingZeros_74 rfl (lv_at hl 0 rfl) ?_
            refine lv_iconst (v := (1 : Int32)) hx hb d_Integer_numberOfLeadingZeros_75 (by decide) ?_
            refine lv_iushr (v := (iush_ (iush_ (iush_ a0 (16 : Int32)) (4 : Int32)) (1 : Int32))) hx hb d_Integer_numberOfLeadingZeros_76 rfl ?_
            refine lv_isub hx hb d_Integer_numberOfLeadingZeros_77 ?_
            exact ri_ hx hb hr hk (by rw [q_Integer_numberOfLeadingZeros, if_pos c_1, if_neg c_2, if_pos c_10, if_neg c_11, if_pos c_13]) d_Integer_numberOfLeadingZeros_78
          · refine lv_iinc (v := ((((31 : Int32) + (-16 : Int32)) + (-4 : Int32)) + (-2 : Int32))) (lv' := [(1, .int ((((31 : Int32) + (-16 : Int32)) + (-4 : Int32)) + (-2 : Int32))), (0, .int (iush_ (iush_ a0 (16 : Int32)) (4 : Int32)))]) hx hb d_Integer_numberOfLeadingZeros_66 hl (k := 1) rfl rfl (by decide) rfl (fun ls hl => ?_)
            refine lv_iload_n hx hb d_Integer_numberOfLeadingZeros_69 rfl (lv_at hl 1 rfl) ?_
            refine lv_iconst (v := (2 : Int32)) hx hb d_Integer_numberOfLeadingZeros_70 (by decide) ?_
            refine lv_iushr (v := (iush_ (iush_ (iush_ a0 (16 : Int32)) (4 : Int32)) (2 : Int32))) hx hb d_Integer_numberOfLeadingZeros_71 rfl ?_
            refine lv_istore_n (lv' := [(0, .int (iush_ (iush_ (iush_ a0 (16 : Int32)) (4 : Int32)) (2 : Int32))), (1, .int ((((31 : Int32) + (-16 : Int32)) + (-4 : Int32)) + (-2 : Int32)))]) hx hb d_Integer_numberOfLeadingZeros_72 rfl hl (by decide) rfl (fun ls hl => ?_)
            refine lv_iload_n hx hb d_Integer_numberOfLeadingZeros_73 rfl (lv_at hl 1 rfl) ?_
            refine lv_iload_n hx hb d_Integer_numberOfLeadingZeros_74 rfl (lv_at hl 0 rfl) ?_
            refine lv_iconst (v := (1 : Int32)) hx hb d_Integer_numberOfLeadingZeros_75 (by decide) ?_
            refine lv_iushr (v := (iush_ (iush_ (iush_ (iush_ a0 (16 : Int32)) (4 : Int32)) (2 : Int32)) (1 : Int32))) hx hb d_Integer_numberOfLeadingZeros_76 rfl ?_
            refine lv_isub hx hb d_Integer_numberOfLeadingZeros_77 ?_
            exact ri_ hx hb hr hk (by rw [q_Integer_numberOfLeadingZeros, if_pos c_1, if_neg c_2, if_pos c_10, if_neg c_11, if_neg c_13]) d_Integer_numberOfLeadingZeros_78
      · refine lv_iinc (v := (((31 : Int32) + (-16 : Int32)) + (-8 : Int32))) (lv' := [(1, .int (((31 : Int32) + (-16 : Int32)) + (-8 : Int32))), (0, .int (iush_ a0 (16 : Int32)))]) hx hb d_Integer_numberOfLeadingZeros_40 hl (k := 1) rfl rfl (by decide) rfl (fun ls hl => ?_)
        refine lv_iload_n hx hb d_Integer_numberOfLeadingZeros_43 rfl (lv_at hl 1 rfl) ?_
        refine lv_bipush (v := (8 : Int32)) hx hb d_Integer_numberOfLeadingZeros_44 (by decide) ?_
        refine lv_iushr (v := (iush_ (iush_ a0 (16 : Int32)) (8 : Int32))) hx hb d_Integer_numberOfLeadingZeros_46 rfl ?_
        refine lv_istore_n (lv' := [(0, .int (iush_ (iush_ a0 (16 : Int32)) (8 : Int32))), (1, .int (((31 : Int32) + (-16 : Int32)) + (-8 : Int32)))]) hx hb d_Integer_numberOfLeadingZeros_47 rfl hl (by decide) rfl (fun ls hl => ?_)
        refine lv_iload_n hx hb d_Integer_numberOfLeadingZeros_48 rfl (lv_at hl 0 rfl) ?_
        refine lv_bipush (v := (16 : Int32)) hx hb d_Integer_numberOfLeadingZeros_49 (by decide) ?_
        refine lv_icmp_lt (tgt := 61) hx hb d_Integer_numberOfLeadingZeros_51 (by decide) (fun c_14 => ?_) (fun c_14 => ?_)
        · refine lv_iload_n hx hb d_Integer_numberOfLeadingZeros_61 rfl (lv_at hl 0 rfl) ?_
          refine lv_iconst (v := (4 : Int32)) hx hb d_Integer_numberOfLeadingZeros_62 (by decide) ?_
          refine lv_icmp_lt (tgt := 73) hx hb d_Integer_numberOfLeadingZeros_63 (by decide) (fun c_15 => ?_) (fun c_15 => ?_)
          · refine lv_iload_n hx hb d_Integer_numberOfLeadingZeros_73 rfl (lv_at hl 1 rfl) ?_
            refine lv_iload_n hx hb d_Integer_numberOfLeadingZeros_74 rfl (lv_at hl 0 rfl) ?_
            refine lv_iconst (v := (1 : Int32)) hx hb d_Integer_numberOfLeadingZeros_75 (by decide) ?_
            refine lv_iushr (v := (iush_ (iush_ (iush_ a0 (16 : Int32)) (8 : Int32)) (1 : Int32))) hx hb d_Integer_numberOfLeadingZeros_76 rfl ?_
            refine lv_isub hx hb d_Integer_numberOfLeadingZeros_77 ?_
            exact ri_ hx hb hr hk (by rw [q_Integer_numberOfLeadingZeros, if_pos c_1, if_neg c_2, if_neg c_10, if_pos c_14, if_pos c_15]) d_Integer_numberOfLeadingZeros_78
          · refine lv_iinc (v := ((((31 : Int32) + (-16 : Int32)) + (-8 : Int32)) + (-2 : Int32))) (lv' := [(1, .int ((((31 : Int32) + (-16 : Int32)) + (-8 : Int32)) + (-2 : Int32))), (0, .int (iush_ (iush_ a0 (16 : Int32)) (8 : Int32)))]) hx hb d_Integer_numberOfLeadingZeros_66 hl (k := 1) rfl rfl (by decide) rfl (fun ls hl => ?_)
            refine lv_iload_n hx hb d_Integer_numberOfLeadingZeros_69 rfl (lv_at hl 1 rfl) ?_
            refine lv_iconst (v := (2 : Int32)) hx hb d_Integer_numberOfLeadingZeros_70 (by decide) ?_
            refine lv_iushr (v := (iush_ (iush_ (iush_ a0 (16 : Int32)) (8 : Int32)) (2 : Int32))) hx hb d_Integer_numberOfLeadingZeros_71 rfl ?_
            refine lv_istore_n (lv' := [(0, .int (iush_ (iush_ (iush_ a0 (16 : Int32)) (8 : Int32)) (2 : Int32))), (1, .int ((((31 : Int32) + (-16 : Int32)) + (-8 : Int32)) + (-2 : Int32)))]) hx hb d_Integer_numberOfLeadingZeros_72 rfl hl (by decide) rfl (fun ls hl => ?_)
            refine lv_iload_n hx hb d_Integer_numberOfLeadingZeros_73 rfl (lv_at hl 1 rfl) ?_
            refine lv_iload_n hx hb d_Integer_numberOfLeadingZeros_74 rfl (lv_at hl 0 rfl) ?_
            refine lv_iconst (v := (1 : Int32)) hx hb d_Integer_numberOfLeadingZeros_75 (by decide) ?_
            refine lv_iushr (v := (iush_ (iush_ (iush_ (iush_ a0 (16 : Int32)) (8 : Int32)) (2 : Int32)) (1 : Int32))) hx hb d_Integer_numberOfLeadingZeros_76 rfl ?_
            refine lv_isub hx hb d_Integer_numberOfLeadingZeros_77 ?_
            exact ri_ hx hb hr hk (by rw [q_Integer_numberOfLeadingZeros, if_pos c_1, if_neg c_2, if_neg c_10, if_pos c_14, if_neg c_15]) d_Integer_numberOfLeadingZeros_78
        · refine lv_iinc (v := ((((31 : Int32) + (-16 : Int32)) + (-8 : Int32)) + (-4 : Int32))) (lv' := [(1, .int ((((31 : Int32) + (-16 : Int32)) + (-8 : Int32)) + (-4 : Int32))), (0, .int (iush_ (iush_ a0 (16 : Int32)) (8 : Int32)))]) hx hb d_Integer_numberOfLeadingZeros_54 hl (k := 1) rfl rfl (by decide) rfl (fun ls hl => ?_)
          refine lv_iload_n hx hb d_Integer_numberOfLeadingZeros_57 rfl (lv_at hl 1 rfl) ?_
          refine lv_iconst (v := (4 : Int32)) hx hb d_Integer_numberOfLeadingZeros_58 (by decide) ?_
          refine lv_iushr (v := (iush_ (iush_ (iush_ a0 (16 : Int32)) (8 : Int32)) (4 : Int32))) hx hb d_Integer_numberOfLeadingZeros_59 rfl ?_
          refine lv_istore_n (lv' := [(0, .int (iush_ (iush_ (iush_ a0 (16 : Int32)) (8 : Int32)) (4 : Int32))), (1, .int ((((31 : Int32) + (-16 : Int32)) + (-8 : Int32)) + (-4 : Int32)))]) hx hb d_Integer_numberOfLeadingZeros_60 rfl hl (by decide) rfl (fun ls hl => ?_)
          refine lv_iload_n hx hb d_Integer_numberOfLeadingZeros_61 rfl (lv_at hl 0 rfl) ?_
          refine lv_iconst (v := (4 : Int32)) hx hb d_Integer_numberOfLeadingZeros_62 (by decide) ?_
          refine lv_icmp_lt (tgt := 73) hx hb d_Integer_numberOfLeadingZeros_63 (by decide) (fun c_16 => ?_) (fun c_16 => ?_)
          · refine lv_iload_n hx hb d_Integer_numberOfLeadingZeros_73 rfl (lv_at hl 1 rfl) ?_
            refine lv_iload_n hx hb d_Integer_numberOfLeadingZeros_74 rfl (lv_at hl 0 rfl) ?_
            refine lv_iconst (v := (1 : Int32)) hx hb d_Integer_numberOfLeadingZeros_75 (by decide) ?_
            refine lv_iushr (v := (iush_ (iush_ (iush_ (iush_ a0 (16 : Int32)) (8 : Int32)) (4 : Int32)) (1 : Int32))) hx hb d_Integer_numberOfLeadingZeros_76 rfl ?_
            refine lv_isub hx hb d_Integer_numberOfLeadingZeros_77 ?_
            exact ri_ hx hb hr hk (by rw [q_Integer_numberOfLeadingZeros, if_pos c_1, if_neg c_2, if_neg c_10, if_neg c_14, if_pos c_16]) d_Integer_numberOfLeadingZeros_78
          · refine lv_iinc (v := (((((31 : Int32) + (-16 : Int32)) + (-8 : Int32)) + (-4 : Int32)) + (-2 : Int32))) (lv' := [(1, .int (((((31 : Int32) + (-16 : Int32)) + (-8 : Int32)) + (-4 : Int32)) + (-2 : Int32))), (0, .int (iush_ (iush_ (iush_ a0 (16 : Int32)) (8 : Int32)) (4 : Int32)))]) hx hb d_Integer_numberOfLeadingZeros_66 hl (k := 1) rfl rfl (by decide) rfl (fun ls hl => ?_)
            refine lv_iload_n hx hb d_Integer_numberOfLeadingZeros_69 rfl (lv_at hl 1 rfl) ?_
            refine lv_iconst (v := (2 : Int32)) hx hb d_Integer_numberOfLeadingZeros_70 (by decide) ?_
            refine lv_iushr (v := (iush_ (iush_ (iush_ (iush_ a0 (16 : Int32)) (8 : Int32)) (4 : Int32)) (2 : Int32))) hx hb d_Integer_numberOfLeadingZeros_71 rfl ?_
            refine lv_istore_n (lv' := [(0, .int (iush_ (iush_ (iush_ (iush_ a0 (16 : Int32)) (8 : Int32)) (4 : Int32)) (2 : Int32))), (1, .int (((((31 : Int32) + (-16 : Int32)) + (-8 : Int32)) + (-4 : Int32)) + (-2 : Int32)))]) hx hb d_Integer_numberOfLeadingZeros_72 rfl hl (by decide) rfl (fun ls hl => ?_)
            refine lv_iload_n hx hb d_Integer_numberOfLeadingZeros_73 rfl (lv_at hl 1 rfl) ?_
            refine lv_iload_n hx hb d_Integer_numberOfLeadingZeros_74 rfl (lv_at hl 0 rfl) ?_
            refine lv_iconst (v := (1 : Int32)) hx hb d_Integer_numberOfLeadingZeros_75 (by decide) ?_
            refine lv_iushr (v := (iush_ (iush_ (iush_ (iush_ (iush_ a0 (16 : Int32)) (8 : Int32)) (4 : Int32)) (2 : Int32)) (1 : Int32))) hx hb d_Integer_numberOfLeadingZeros_76 rfl ?_
            refine lv_isub hx hb d_Integer_numberOfLeadingZeros_77 ?_
            exact ri_ hx hb hr hk (by rw [q_Integer_numberOfLeadingZeros, if_pos c_1, if_neg c_2, if_neg c_10, if_neg c_14, if_neg c_16]) d_Integer_numberOfLeadingZeros_78
  · refine lv_iload_n hx hb d_Integer_numberOfLeadingZeros_4 rfl (lv_at hl 0 rfl) ?_
    refine lv_if_ne (tgt := 13) hx hb d_Integer_numberOfLeadingZeros_5 (by decide) (fun c_17 => ?_) (fun c_17 => ?_)
    · refine lv_iconst (v := (0 : Int32)) hx hb d_Integer_numberOfLeadingZeros_13 (by decide) ?_
      exact ri_ hx hb hr hk (by rw [q_Integer_numberOfLeadingZeros, if_neg c_1, if_neg c_17]) d_Integer_numberOfLeadingZeros_14
    · refine lv_bipush (v := (32 : Int32)) hx hb d_Integer_numberOfLeadingZeros_8 (by decide) ?_
      refine lv_goto (tgt := 14) hx hb d_Integer_numberOfLeadingZeros_10 (by decide) ?_
      exact ri_ hx hb hr hk (by rw [q_Integer_numberOfLeadingZeros, if_neg c_1, if_pos c_17]) d_Integer_numberOfLeadingZeros_14
def q_Long_numberOfLeadingZeros (a0 : Int64) : Int32 :=
  if (Int64.toInt32 (ush_ a0 (32 : Int32))) = 0 then
    ((32 : Int32) + (q_Integer_numberOfLeadingZeros (Int64.toInt32 a0)))
  else
    (q_Integer_numberOfLeadingZeros (Int64.toInt32 (ush_ a0 (32 : Int32))))
theorem kB_Long_numberOfLeadingZeros : SB y_Long_numberOfLeadingZeros b_Long_numberOfLeadingZeros 3 (some .int) 1 := ⟨wd_5, wd_6, wd_7, by decide +kernel⟩
set_option maxHeartbeats 4000000 in
set_option maxRecDepth 100000 in
theorem c_Long_numberOfLeadingZeros (l : Launch) (A : Nat → Prop) (ad : Nat → Nat) (a0 : Int64) : Met l y_Long_numberOfLeadingZeros (Cond.code y_Long_numberOfLeadingZeros b_Long_numberOfLeadingZeros 3 (some .int) :: BT) ({ frames := 1, cells := 0, slots := 0, locals := 21 }) (PC A ad [.long a0]) (vp_Si (fun r => r = q_Long_numberOfLeadingZeros a0)) 0 0 (fun _ => False) := by
  refine pm_ (by decide +kernel) (Nat.le_of_ble_eq_true rfl) ?_
  intro p e s m below meth c hq hr hk ls hl
  have hx := hq.1
  have hb := hq.2.1
  have hts := hq.2.2.2.2.1
  have hl : lv_has ls 3 [(0, .long a0)] := hl
  refine lv_lload_n hx hb d_Long_numberOfLeadingZeros_0 rfl (lv_at hl 0 rfl) ?_
  refine lv_bipush (v := (32 : Int32)) hx hb d_Long_numberOfLeadingZeros_1 (by decide) ?_
  refine lv_lushr (v := (ush_ a0 (32 : Int32))) hx hb d_Long_numberOfLeadingZeros_3 rfl ?_
  refine lv_l2i (v := (Int64.toInt32 (ush_ a0 (32 : Int32)))) hx hb d_Long_numberOfLeadingZeros_4 rfl ?_
  refine lv_istore_n (lv' := [(2, .int (Int64.toInt32 (ush_ a0 (32 : Int32)))), (0, .long a0)]) hx hb d_Long_numberOfLeadingZeros_5 rfl hl (by decide) rfl (fun ls hl => ?_)
  refine lv_iload_n hx hb d_Long_numberOfLeadingZeros_6 rfl (lv_at hl 0 rfl) ?_
  refine lv_if_ne (tgt := 21) hx hb d_Long_numberOfLeadingZeros_7 (by decide) (fun c_1 => ?_) (fun c_1 => ?_)
  · refine lv_iload_n hx hb d_Long_numberOfLeadingZeros_21 rfl (lv_at hl 0 rfl) ?_
    refine si_ (As := [.int (Int64.toInt32 (ush_ a0 (32 : Int32)))]) (rest := []) hq (c_Integer_numberOfLeadingZeros l A ad (Int64.toInt32 (ush_ a0 (32 : Int32)))) kB_Integer_numberOfLeadingZeros wd_4 ⟨rfl, rfl, Nat.le_of_ble_eq_true rfl, Nat.le_of_ble_eq_true rfl⟩ rfl hl.1 rfl (Nat.le_of_ble_eq_true rfl) d_Long_numberOfLeadingZeros_22 ⟨Nat.zero_le _, Nat.zero_le _⟩ ?_
    exact ri_ hx hb hr hk (by rw [q_Long_numberOfLeadingZeros, if_neg c_1]) d_Long_numberOfLeadingZeros_25
  · refine lv_bipush (v := (32 : Int32)) hx hb d_Long_numberOfLeadingZeros_10 (by decide) ?_
    refine lv_lload_n hx hb d_Long_numberOfLeadingZeros_12 rfl (lv_at hl 1 rfl) ?_
    refine lv_l2i (v := (Int64.toInt32 a0)) hx hb d_Long_numberOfLeadingZeros_13 rfl ?_
    refine si_ (As := [.int (Int64.toInt32 a0)]) (rest := [.int (32 : Int32)]) hq (c_Integer_numberOfLeadingZeros l A ad (Int64.toInt32 a0)) kB_Integer_numberOfLeadingZeros wd_4 ⟨rfl, rfl, Nat.le_of_ble_eq_true rfl, Nat.le_of_ble_eq_true rfl⟩ rfl hl.1 rfl (Nat.le_of_ble_eq_true rfl) d_Long_numberOfLeadingZeros_14 ⟨Nat.zero_le _, Nat.zero_le _⟩ ?_
    refine lv_iadd hx hb d_Long_numberOfLeadingZeros_17 ?_
    refine lv_goto (tgt := 25) hx hb d_Long_numberOfLeadingZeros_18 (by decide) ?_
    exact ri_ hx hb hr hk (by rw [q_Long_numberOfLeadingZeros, if_pos c_1]) d_Long_numberOfLeadingZeros_25
def q_Math_max (a0 : Int32) (a1 : Int32) : Int32 :=
  if a0 < a1 then
    a1
  else
    a0
theorem kB_Math_max : SB y_Math_max b_Math_max 2 (some .int) 2 := ⟨wd_8, wd_9, wd_10, by decide +kernel⟩
set_option maxHeartbeats 4000000 in
set_option maxRecDepth 100000 in
theorem c_Math_max (l : Launch) (A : Nat → Prop) (ad : Nat → Nat) (a0 : Int32) (a1 : Int32) : Met l y_Math_max (Cond.code y_Math_max b_Math_max 2 (some .int) :: BT) ({ frames := 0, cells := 0, slots := 0, locals := 0 }) (PC A ad [.int a0, .int a1]) (vp_Si (fun r => r = q_Math_max a0 a1)) 0 0 (fun _ => False) := by
  refine pm_ (by decide +kernel) (Nat.le_of_ble_eq_true rfl) ?_
  intro p e s m below meth c hq hr hk ls hl
  have hx := hq.1
  have hb := hq.2.1
  have hts := hq.2.2.2.2.1
  have hl : lv_has ls 2 [(0, .int a0), (1, .int a1)] := hl
  refine lv_iload_n hx hb d_Math_max_0 rfl (lv_at hl 0 rfl) ?_
  refine lv_iload_n hx hb d_Math_max_1 rfl (lv_at hl 1 rfl) ?_
  refine lv_icmp_lt (tgt := 9) hx hb d_Math_max_2 (by decide) (fun c_1 => ?_) (fun c_1 => ?_)
  · refine lv_iload_n hx hb d_Math_max_9 rfl (lv_at hl 1 rfl) ?_
    exact ri_ hx hb hr hk (by rw [q_Math_max, if_pos c_1]) d_Math_max_10
  · refine lv_iload_n hx hb d_Math_max_5 rfl (lv_at hl 0 rfl) ?_
    refine lv_goto (tgt := 10) hx hb d_Math_max_6 (by decide) ?_
    exact ri_ hx hb hr hk (by rw [q_Math_max, if_neg c_1]) d_Math_max_10
def q_Long_compare (a0 : Int64) (a1 : Int64) : Int32 :=
  if a1 ≤ a0 then
    if a0 = a1 then
      (0 : Int32)
    else
      (1 : Int32)
  else
    (-1 : Int32)
theorem kB_Long_compare : SB y_Long_compare b_Long_compare 4 (some .int) 2 := ⟨wd_11, wd_12, wd_7, by decide +kernel⟩
set_option maxHeartbeats 4000000 in
set_option maxRecDepth 100000 in
theorem c_Long_compare (l : Launch) (A : Nat → Prop) (ad : Nat → Nat) (a0 : Int64) (a1 : Int64) : Met l y_Long_compare (Cond.code y_Long_compare b_Long_compare 4 (some .int) :: BT) ({ frames := 0, cells := 0, slots := 0, locals := 0 }) (PC A ad [.long a0, .long a1]) (vp_Si (fun r => r = q_Long_compare a0 a1)) 0 0 (fun _ => False) := by
  refine pm_ (by decide +kernel) (Nat.le_of_ble_eq_true rfl) ?_
  intro p e s m below meth c hq hr hk ls hl
  have hx := hq.1
  have hb := hq.2.1
  have hts := hq.2.2.2.2.1
  have hl : lv_has ls 4 [(0, .long a0), (2, .long a1)] := hl
  refine lv_lload_n hx hb d_Long_compare_0 rfl (lv_at hl 0 rfl) ?_
  refine lv_lload_n hx hb d_Long_compare_1 rfl (lv_at hl 1 rfl) ?_
  refine W.lcmp hx hb d_Long_compare_2 ?_
  refine lv_if_ge (tgt := 10) hx hb d_Long_compare_3 (by decide) (fun c_1 => ?_) (fun c_1 => ?_)
  · rw [lg_cmp_ge] at c_1
    refine lv_lload_n hx hb d_Long_compare_10 rfl (lv_at hl 0 rfl) ?_
    refine lv_lload_n hx hb d_Long_compare_11 rfl (lv_at hl 1 rfl) ?_
    refine W.lcmp hx hb d_Long_compare_12 ?_
    refine lv_if_ne (tgt := 20) hx hb d_Long_compare_13 (by decide) (fun c_2 => ?_) (fun c_2 => ?_)
    · rw [lg_cmp_eq] at c_2
      refine lv_iconst (v := (1 : Int32)) hx hb d_Long_compare_20 (by decide) ?_
      exact ri_ hx hb hr hk (by rw [q_Long_compare, if_pos c_1, if_neg c_2]) d_Long_compare_21
    · rw [lg_cmp_eq] at c_2
      refine lv_iconst (v := (0 : Int32)) hx hb d_Long_compare_16 (by decide) ?_
      refine lv_goto (tgt := 21) hx hb d_Long_compare_17 (by decide) ?_
      exact ri_ hx hb hr hk (by rw [q_Long_compare, if_pos c_1, if_pos c_2]) d_Long_compare_21
  · rw [lg_cmp_ge] at c_1
    refine lv_iconst (v := (-1 : Int32)) hx hb d_Long_compare_6 (by decide) ?_
    refine lv_goto (tgt := 21) hx hb d_Long_compare_7 (by decide) ?_
    exact ri_ hx hb hr hk (by rw [q_Long_compare, if_neg c_1]) d_Long_compare_21
def q_Long_compareUnsigned (a0 : Int64) (a1 : Int64) : Int32 :=
  (q_Long_compare (a0 + (-9223372036854775808 : Int64)) (a1 + (-9223372036854775808 : Int64)))
theorem kB_Long_compareUnsigned : SB y_Long_compareUnsigned b_Long_compareUnsigned 4 (some .int) 2 := ⟨wd_15, wd_16, wd_7, by decide +kernel⟩
set_option maxHeartbeats 4000000 in
set_option maxRecDepth 100000 in
theorem c_Long_compareUnsigned (l : Launch) (A : Nat → Prop) (ad : Nat → Nat) (a0 : Int64) (a1 : Int64) : Met l y_Long_compareUnsigned (Cond.code y_Long_compareUnsigned b_Long_compareUnsigned 4 (some .int) :: BT) ({ frames := 1, cells := 0, slots := 0, locals := 23 }) (PC A ad [.long a0, .long a1]) (vp_Si (fun r => r = q_Long_compareUnsigned a0 a1)) 0 0 (fun _ => False) := by
  refine pm_ (by decide +kernel) (Nat.le_of_ble_eq_true rfl) ?_
  intro p e s m below meth c hq hr hk ls hl
  have hx := hq.1
  have hb := hq.2.1
  have hts := hq.2.2.2.2.1
  have hl : lv_has ls 4 [(0, .long a0), (2, .long a1)] := hl
  refine lv_lload_n hx hb d_Long_compareUnsigned_0 rfl (lv_at hl 0 rfl) ?_
  refine lv_ldc2 (v := (-9223372036854775808 : Int64)) hx hb hq.2.2.2.1 (hts _ wd_13) d_Long_compareUnsigned_1 ?_
  refine lv_ladd hx hb d_Long_compareUnsigned_4 ?_
  refine lv_lload_n hx hb d_Long_compareUnsigned_5 rfl (lv_at hl 1 rfl) ?_
  refine lv_ldc2 (v := (-9223372036854775808 : Int64)) hx hb hq.2.2.2.1 (hts _ wd_13) d_Long_compareUnsigned_6 ?_
  refine lv_ladd hx hb d_Long_compareUnsigned_9 ?_
  refine si_ (As := [.long (a0 + (-9223372036854775808 : Int64)), .long (a1 + (-9223372036854775808 : Int64))]) (rest := []) hq (c_Long_compare l A ad (a0 + (-9223372036854775808 : Int64)) (a1 + (-9223372036854775808 : Int64))) kB_Long_compare wd_14 ⟨rfl, rfl, Nat.le_of_ble_eq_true rfl, Nat.le_of_ble_eq_true rfl⟩ rfl hl.1 rfl (Nat.le_of_ble_eq_true rfl) d_Long_compareUnsigned_10 ⟨Nat.zero_le _, Nat.zero_le _⟩ ?_
  exact ri_ hx hb hr hk (by rw [q_Long_compareUnsigned]) d_Long_compareUnsigned_13
def q_Integer_numberOfTrailingZeros (a0 : Int32) : Int32 :=
  if 0 < ((a0 ^^^ (-1 : Int32)) &&& (a0 - (1 : Int32))) then
    if ((a0 ^^^ (-1 : Int32)) &&& (a0 - (1 : Int32))) ≤ (65536 : Int32) then
      if ((a0 ^^^ (-1 : Int32)) &&& (a0 - (1 : Int32))) ≤ (256 : Int32) then
        if ((a0 ^^^ (-1 : Int32)) &&& (a0 - (1 : Int32))) ≤ (16 : Int32) then
          if ((a0 ^^^ (-1 : Int32)) &&& (a0 - (1 : Int32))) ≤ (4 : Int32) then
            ((1 : Int32) + (iush_ ((a0 ^^^ (-1 : Int32)) &&& (a0 - (1 : Int32))) (1 : Int32)))
          else
            (((1 : Int32) + (2 : Int32)) + (iush_ (iush_ ((a0 ^^^ (-1 : Int32)) &&& (a0 - (1 : Int32))) (2 : Int32)) (1 : Int32)))
        else
          if (iush_ ((a0 ^^^ (-1 : Int32)) &&& (a0 - (1 : Int32))) (4 : Int32)) ≤ (4 : Int32) then
            (((1 : Int32) + (4 : Int32)) + (iush_ (iush_ ((a0 ^^^ (-1 : Int32)) &&& (a0 - (1 : Int32))) (4 : Int32)) (1 : Int32)))
          else
            ((((1 : Int32) + (4 : Int32)) + (2 : Int32)) + (iush_ (iush_ (iush_ ((a0 ^^^ (-1 : Int32)) &&& (a0 - (1 : Int32))) (4 : Int32)) (2 : Int32)) (1 : Int32)))
      else
        if (iush_ ((a0 ^^^ (-1 : Int32)) &&& (a0 - (1 : Int32))) (8 : Int32)) ≤ (16 : Int32) then
          if (iush_ ((a0 ^^^ (-1 : Int32)) &&& (a0 - (1 : Int32))) (8 : Int32)) ≤ (4 : Int32) then
            (((1 : Int32) + (8 : Int32)) + (iush_ (iush_ ((a0 ^^^ (-1 : Int32)) &&& (a0 - (1 : Int32))) (8 : Int32)) (1 : Int32)))
          else
            ((((1 : Int32) + (8 : Int32)) + (2 : Int32)) + (iush_ (iush_ (iush_ ((a0 ^^^ (-1 : Int32)) &&& (a0 - (1 : Int32))) (8 : Int32)) (2 : Int32)) (1 : Int32)))
        else
          if (iush_ (iush_ ((a0 ^^^ (-1 : Int32)) &&& (a0 - (1 : Int32))) (8 : Int32)) (4 : Int32)) ≤ (4 : Int32) then
            ((((1 : Int32) + (8 : Int32)) + (4 : Int32)) + (iush_ (iush_ (iush_ ((a0 ^^^ (-1 : Int32)) &&& (a0 - (1 : Int32))) (8 : Int32)) (4 : Int32)) (1 : Int32)))
          else
            (((((1 : Int32) + (8 : Int32)) + (4 : Int32)) + (2 : Int32)) + (iush_ (iush_ (iush_ (iush_ ((a0 ^^^ (-1 : Int32)) &&& (a0 - (1 : Int32))) (8 : Int32)) (4 : Int32)) (2 : Int32)) (1 : Int32)))
    else
      if (iush_ ((a0 ^^^ (-1 : Int32)) &&& (a0 - (1 : Int32))) (16 : Int32)) ≤ (256 : Int32) then
        if (iush_ ((a0 ^^^ (-1 : Int32)) &&& (a0 - (1 : Int32))) (16 : Int32)) ≤ (16 : Int32) then
          if (iush_ ((a0 ^^^ (-1 : Int32)) &&& (a0 - (1 : Int32))) (16 : Int32)) ≤ (4 : Int32) then
            (((1 : Int32) + (16 : Int32)) + (iush_ (iush_ ((a0 ^^^ (-1 : Int32)) &&& (a0 - (1 : Int32))) (16 : Int32)) (1 : Int32)))
          else
            ((((1 : Int32) + (16 : Int32)) + (2 : Int32)) + (iush_ (iush_ (iush_ ((a0 ^^^ (-1 : Int32)) &&& (a0 - (1 : Int32))) (16 : Int32)) (2 : Int32)) (1 : Int32)))
        else
          if (iush_ (iush_ ((a0 ^^^ (-1 : Int32)) &&& (a0 - (1 : Int32))) (16 : Int32)) (4 : Int32)) ≤ (4 : Int32) then
            ((((1 : Int32) + (16 : Int32)) + (4 : Int32)) + (iush_ (iush_ (iush_ ((a0 ^^^ (-1 : Int32)) &&& (a0 - (1 : Int32))) (16 : Int32)) (4 : Int32)) (1 : Int32)))
          else
            (((((1 : Int32) + (16 : Int32)) + (4 : Int32)) + (2 : Int32)) + (iush_ (iush_ (iush_ (iush_ ((a0 ^^^ (-1 : Int32)) &&& (a0 - (1 : Int32))) (16 : Int32)) (4 : Int32)) (2 : Int32)) (1 : Int32)))
      else
        if (iush_ (iush_ ((a0 ^^^ (-1 : Int32)) &&& (a0 - (1 : Int32))) (16 : Int32)) (8 : Int32)) ≤ (16 : Int32) then
          if (iush_ (iush_ ((a0 ^^^ (-1 : Int32)) &&& (a0 - (1 : Int32))) (16 : Int32)) (8 : Int32)) ≤ (4 : Int32) then
            ((((1 : Int32) + (16 : Int32)) + (8 : Int32)) + (iush_ (iush_ (iush_ ((a0 ^^^ (-1 : Int32)) &&& (a0 - (1 : Int32))) (16 : Int32)) (8 : Int32)) (1 : Int32)))
          else
            (((((1 : Int32) + (16 : Int32)) + (8 : Int32)) + (2 : Int32)) + (iush_ (iush_ (iush_ (iush_ ((a0 ^^^ (-1 : Int32)) &&& (a0 - (1 : Int32))) (16 : Int32)) (8 : Int32)) (2 : Int32)) (1 : Int32)))
        else
          if (iush_ (iush_ (iush_ ((a0 ^^^ (-1 : Int32)) &&& (a0 - (1 : Int32))) (16 : Int32)) (8 : Int32)) (4 : Int32)) ≤ (4 : Int32) then
            (((((1 : Int32) + (16 : Int32)) + (8 : Int32)) + (4 : Int32)) + (iush_ (iush_ (iush_ (iush_ ((a0 ^^^ (-1 : Int32)) &&& (a0 - (1 : Int32))) (16 : Int32)) (8 : Int32)) (4 : Int32)) (1 : Int32)))
          else
            ((((((1 : Int32) + (16 : Int32)) + (8 : Int32)) + (4 : Int32)) + (2 : Int32)) + (iush_ (iush_ (iush_ (iush_ (iush_ ((a0 ^^^ (-1 : Int32)) &&& (a0 - (1 : Int32))) (16 : Int32)) (8 : Int32)) (4 : Int32)) (2 : Int32)) (1 : Int32)))
  else
    (((a0 ^^^ (-1 : Int32)) &&& (a0 - (1 : Int32))) &&& (32 : Int32))
theorem kB_Integer_numberOfTrailingZeros : SB y_Integer_numberOfTrailingZeros b_Integer_numberOfTrailingZeros 2 (some .int) 1 := ⟨wd_17, wd_18, wd_3, by decide +kernel⟩
set_option maxHeartbeats 4000000 in
set_option maxRecDepth 100000 in
theorem c_Integer_numberOfTrailingZeros (l : Launch) (A : Nat → Prop) (ad : Nat → Nat) (a0 : Int32) : Met l y_Integer_numberOfTrailingZeros (Cond.code y_Integer_numberOfTrailingZeros b_Integer_numberOfTrailingZeros 2 (some .int) :: BT) ({ frames := 0, cells := 0, slots := 0, locals := 0 }) (PC A ad [.int a0]) (vp_Si (fun r => r = q_Integer_numberOfTrailingZeros a0)) 0 0 (fun _ => False) := by
  refine pm_ (by decide +kernel) (Nat.le_of_ble_eq_true rfl) ?_
  intro p e s m below meth c hq hr hk ls hl
  have hx := hq.1
  have hb := hq.2.1
  have hts := hq.2.2.2.2.1
  have hl : lv_has ls 2 [(0, .int a0)] := hl
  refine lv_iload_n hx hb d_Integer_numberOfTrailingZeros_0 rfl (lv_at hl 0 rfl) ?_
  refine lv_iconst (v := (-1 : Int32)) hx hb d_Integer_numberOfTrailingZeros_1 (by decide) ?_
  refine lv_ixor hx hb d_Integer_numberOfTrailingZeros_2 ?_
  refine lv_iload_n hx hb d_Integer_numberOfTrailingZeros_3 rfl (lv_at hl 0 rfl) ?_
  refine lv_iconst (v := (1 : Int32)) hx hb d_Integer_numberOfTrailingZeros_4 (by decide) ?_
  refine lv_isub hx hb d_Integer_numberOfTrailingZeros_5 ?_
  refine lv_iand hx hb d_Integer_numberOfTrailingZeros_6 ?_
  refine lv_istore_n (lv' := [(0, .int ((a0 ^^^ (-1 : Int32)) &&& (a0 - (1 : Int32))))]) hx hb d_Integer_numberOfTrailingZeros_7 rfl hl (by decide) rfl (fun ls hl => ?_)
  refine lv_iload_n hx hb d_Integer_numberOfTrailingZeros_8 rfl (lv_at hl 0 rfl) ?_
  refine lv_if_gt (tgt := 17) hx hb d_Integer_numberOfTrailingZeros_9 (by decide) (fun c_1 => ?_) (fun c_1 => ?_)
  · refine lv_iconst (v := (1 : Int32)) hx hb d_Integer_numberOfTrailingZeros_17 (by decide) ?_
    refine lv_istore_n (lv' := [(1, .int (1 : Int32)), (0, .int ((a0 ^^^ (-1 : Int32)) &&& (a0 - (1 : Int32))))]) hx hb d_Integer_numberOfTrailingZeros_18 rfl hl (by decide) rfl (fun ls hl => ?_)
    refine lv_iload_n hx hb d_Integer_numberOfTrailingZeros_19 rfl (lv_at hl 1 rfl) ?_
    refine lv_ldcw (v := (65536 : Int32)) hx hb hq.2.2.2.1 (hts _ wd_0) d_Integer_numberOfTrailingZeros_20 ?_
    refine lv_icmp_le (tgt := 34) hx hb d_Integer_numberOfTrailingZeros_23 (by decide) (fun c_2 => ?_) (fun c_2 => ?_)
    · refine lv_iload_n hx hb d_Integer_numberOfTrailingZeros_34 rfl (lv_at hl 1 rfl) ?_
      refine lv_sipush (v := (256 : Int32)) hx hb d_Integer_numberOfTrailingZeros_35 (by decide) ?_
      refine lv_icmp_le (tgt := 49) hx hb d_Integer_numberOfTrailingZeros_38 (by decide) (fun c_3 => ?_) (fun c_3 => ?_)
      · refine lv_iload_n hx hb d_Integer_numberOfTrailingZeros_49 rfl (lv_at hl 1 rfl) ?_
        refine lv_bipush (v := (16 : Int32)) hx hb d_Integer_numberOfTrailingZeros_50 (by decide) ?_
        refine lv_icmp_le (tgt := 62) hx hb d_Integer_numberOfTrailingZeros_52 (by decide) (fun c_4 => ?_) (fun c_4 => ?_)
        · refine lv_iload_n hx hb d_Integer_numberOfTrailingZeros_62 rfl (lv_at hl 1 rfl) ?_
          refine lv_iconst (v := (4 : Int32)) hx hb d_Integer_numberOfTrailingZeros_63 (by decide) ?_
          refine lv_icmp_le (tgt := 74) hx hb d_Integer_numberOfTrailingZeros_64 (by decide) (fun c_5 => ?_) (fun c_5 => ?_)
          · refine lv_iload_n hx hb d_Integer_numberOfTrailingZeros_74 rfl (lv_at hl 0 rfl) ?_
            refine lv_iload_n hx hb d_Integer_numberOfTrailingZeros_75 rfl (lv_at hl 1 rfl) ?_
            refine lv_iconst (v := (1 : Int32)) hx hb d_Integer_numberOfTrailingZeros_76 (by decide) ?_
            refine lv_iushr (v := (iush_ ((a0 ^^^ (-1 : Int32)) &&& (a0 - (1 : Int32))) (1 : Int32))) hx hb d_Integer_numberOfTrailingZeros_77 rfl ?_
            refine lv_iadd hx hb d_Integer_numberOfTrailingZeros_78 ?_
            exact ri_ hx hb hr hk (by rw [q_Integer_numberOfTrailingZeros, if_pos c_1, if_pos c_2, if_pos c_3, if_pos c_4, if_pos c_5]) d_Integer_numberOfTrailingZeros_79
          · refine lv_iinc (v := ((1 : Int32) + (2 : Int32))) (lv' := [(1, .int ((1 : Int32) + (2 : Int32))), (0, .int ((a0 ^^^ (-1 : Int32)) &&& (a0 - (1 : Int32))))]) hx hb d_Integer_numberOfTrailingZeros_67 hl (k := 0) rfl rfl (by decide) rfl (fun ls hl => ?_)
            refine lv_iload_n hx hb d_Integer_numberOfTrailingZeros_70 rfl (lv_at hl 1 rfl) ?_
            refine lv_iconst (v := (2 : Int32)) hx hb d_Integer_numberOfTrailingZeros_71 (by decide) ?_
            refine lv_iushr (v := (iush_ ((a0 ^^^ (-1 : Int32)) &&& (a0 - (1 : Int32))) (2 : Int32))) hx hb d_Integer_numberOfTrailingZeros_72 rfl ?_
            refine lv_istore_n (lv' := [(0, .int (iush_ ((a0 ^^^ (-1 : Int32)) &&& (a0 - (1 : Int32))) (2 : Int32))), (1, .int ((1 : Int32) + (2 : Int32)))]) hx hb d_Integer_numberOfTrailingZeros_73 rfl hl (by decide) rfl (fun ls hl => ?_)
            refine lv_iload_n hx hb d_Integer_numberOfTrailingZeros_74 rfl (lv_at hl 1 rfl) ?_
            refine lv_iload_n hx hb d_Integer_numberOfTrailingZeros_75 rfl (lv_at hl 0 rfl) ?_
            refine lv_iconst (v := (1 : Int32)) hx hb d_Integer_numberOfTrailingZeros_76 (by decide) ?_
            refine lv_iushr (v := (iush_ (iush_ ((a0 ^^^ (-1 : Int32)) &&& (a0 - (1 : Int32))) (2 : Int32)) (1 : Int32))) hx hb d_Integer_numberOfTrailingZeros_77 rfl ?_
            refine lv_iadd hx hb d_Integer_numberOfTrailingZeros_78 ?_
            exact ri_ hx hb hr hk (by rw [q_Integer_numberOfTrailingZeros, if_pos c_1, if_pos c_2, if_pos c_3, if_pos c_4, if_neg c_5]) d_Integer_numberOfTrailingZeros_79
        · refine lv_iinc (v := ((1 : Int32) + (4 : Int32))) (lv' := [(1, .int ((1 : Int32) + (4 : Int32))), (0, .int ((a0 ^^^ (-1 : Int32)) &&& (a0 - (1 : Int32))))]) hx hb d_Integer_numberOfTrailingZeros_55 hl (k := 0) rfl rfl (by decide) rfl (fun ls hl => ?_)
          refine lv_iload_n hx hb d_Integer_numberOfTrailingZeros_58 rfl (lv_at hl 1 rfl) ?_
          refine lv_iconst (v := (4 : Int32)) hx hb d_Integer_numberOfTrailingZeros_59 (by decide) ?_
          refine lv_iushr (v := (iush_ ((a0 ^^^ (-1 : Int32)) &&& (a0 - (1 : Int32))) (4 : Int32))) hx hb d_Integer_numberOfTrailingZeros_60 rfl ?_
          refine lv_istore_n (lv' := [(0, .int (iush_ ((a0 ^^^ (-1 : Int32)) &&& (a0 - (1 : Int32))) (4 : Int32))), (1, .int ((1 : Int32) + (4 : Int32)))]) hx hb d_Integer_numberOfTrailingZeros_61 rfl hl (by decide) rfl (fun ls hl => ?_)
          refine lv_iload_n hx hb d_Integer_numberOfTrailingZeros_62 rfl (lv_at hl 0 rfl) ?_
          refine lv_iconst (v := (4 : Int32)) hx hb d_Integer_numberOfTrailingZeros_63 (by decide) ?_
          refine lv_icmp_le (tgt := 74) hx hb d_Integer_numberOfTrailingZeros_64 (by decide) (fun c_6 => ?_) (fun c_6 => ?_)
          · refine lv_iload_n hx hb d_Integer_numberOfTrailingZeros_74 rfl (lv_at hl 1 rfl) ?_
            refine lv_iload_n hx hb d_Integer_numberOfTrailingZeros_75 rfl (lv_at hl 0 rfl) ?_
            refine lv_iconst (v := (1 : Int32)) hx hb d_Integer_numberOfTrailingZeros_76 (by decide) ?_
            refine lv_iushr (v := (iush_ (iush_ ((a0 ^^^ (-1 : Int32)) &&& (a0 - (1 : Int32))) (4 : Int32)) (1 : Int32))) hx hb d_Integer_numberOfTrailingZeros_77 rfl ?_
            refine lv_iadd hx hb d_Integer_numberOfTrailingZeros_78 ?_
            exact ri_ hx hb hr hk (by rw [q_Integer_numberOfTrailingZeros, if_pos c_1, if_pos c_2, if_pos c_3, if_neg c_4, if_pos c_6]) d_Integer_numberOfTrailingZeros_79
          · refine lv_iinc (v := (((1 : Int32) + (4 : Int32)) + (2 : Int32))) (lv' := [(1, .int (((1 : Int32) + (4 : Int32)) + (2 : Int32))), (0, .int (iush_ ((a0 ^^^ (-1 : Int32)) &&& (a0 - (1 : Int32))) (4 : Int32)))]) hx hb d_Integer_numberOfTrailingZeros_67 hl (k := 1) rfl rfl (by decide) rfl (fun ls hl => ?_)
            refine lv_iload_n hx hb d_Integer_numberOfTrailingZeros_70 rfl (lv_at hl 1 rfl) ?_
            refine lv_iconst (v := (2 : Int32)) hx hb d_Integer_numberOfTrailingZeros_71 (by decide) ?_
            refine lv_iushr (v := (iush_ (iush_ ((a0 ^^^ (-1 : Int32)) &&& (a0 - (1 : Int32))) (4 : Int32)) (2 : Int32))) hx hb d_Integer_numberOfTrailingZeros_72 rfl ?_
            refine lv_istore_n (lv' := [(0, .int (iush_ (iush_ ((a0 ^^^ (-1 : Int32)) &&& (a0 - (1 : Int32))) (4 : Int32)) (2 : Int32))), (1, .int (((1 : Int32) + (4 : Int32)) + (2 : Int32)))]) hx hb d_Integer_numberOfTrailingZeros_73 rfl hl (by decide) rfl (fun ls hl => ?_)
            refine lv_iload_n hx hb d_Integer_numberOfTrailingZeros_74 rfl (lv_at hl 1 rfl) ?_
            refine lv_iload_n hx hb d_Integer_numberOfTrailingZeros_75 rfl (lv_at hl 0 rfl) ?_
            refine lv_iconst (v := (1 : Int32)) hx hb d_Integer_numberOfTrailingZeros_76 (by decide) ?_
            refine lv_iushr (v := (iush_ (iush_ (iush_ ((a0 ^^^ (-1 : Int32)) &&& (a0 - (1 : Int32))) (4 : Int32)) (2 : Int32)) (1 : Int32))) hx hb d_Integer_numberOfTrailingZeros_77 rfl ?_
            refine lv_iadd hx hb d_Integer_numberOfTrailingZeros_78 ?_
            exact ri_ hx hb hr hk (by rw [q_Integer_numberOfTrailingZeros, if_pos c_1, if_pos c_2, if_pos c_3, if_neg c_4, if_neg c_6]) d_Integer_numberOfTrailingZeros_79
      · refine lv_iinc (v := ((1 : Int32) + (8 : Int32))) (lv' := [(1, .int ((1 : Int32) + (8 : Int32))), (0, .int ((a0 ^^^ (-1 : Int32)) &&& (a0 - (1 : Int32))))]) hx hb d_Integer_numberOfTrailingZeros_41 hl (k := 0) rfl rfl (by decide) rfl (fun ls hl => ?_)
        refine lv_iload_n hx hb d_Integer_numberOfTrailingZeros_44 rfl (lv_at hl 1 rfl) ?_
        refine lv_bipush (v := (8 : Int32)) hx hb d_Integer_numberOfTrailingZeros_45 (by decide) ?_
        refine lv_iushr (v := (iush_ ((a0 ^^^ (-1 : Int32)) &&& (a0 - (1 : Int32))) (8 : Int32))) hx hb d_Integer_numberOfTrailingZeros_47 rfl ?_
        refine lv_istore_n (lv' := [(0, .int (iush_ ((a0 ^^^ (-1 : Int32)) &&& (a0 - (1 : Int32))) (8 : Int32))), (1, .int ((1 : Int32) + (8 : Int32)))]) hx hb d_Integer_numberOfTrailingZeros_48 rfl hl (by decide) rfl (fun ls hl => ?_)
        refine lv_iload_n hx hb d_Integer_numberOfTrailingZeros_49 rfl (lv_at hl 0 rfl) ?_
        refine lv_bipush (v := (16 : Int32)) hx hb d_Integer_numberOfTrailingZeros_50 (by decide) ?_
        refine lv_icmp_le (tgt := 62) hx hb d_Integer_numberOfTrailingZeros_52 (by decide) (fun c_7 => ?_) (fun c_7 => ?_)
        · refine lv_iload_n hx hb d_Integer_numberOfTrailingZeros_62 rfl (lv_at hl 0 rfl) ?_
          refine lv_iconst (v := (4 : Int32)) hx hb d_Integer_numberOfTrailingZeros_63 (by decide) ?_
          refine lv_icmp_le (tgt := 74) hx hb d_Integer_numberOfTrailingZeros_64 (by decide) (fun c_8 => ?_) (fun c_8 => ?_)
          · refine lv_iload_n hx hb d_Integer_numberOfTrailingZeros_74 rfl (lv_at hl 1 rfl) ?_
            refine lv_iload_n hx hb d_Integer_numberOfTrailingZeros_75 rfl (lv_at hl 0 rfl) ?_
            refine lv_iconst (v := (1 : Int32)) hx hb d_Integer_numberOfTrailingZeros_76 (by decide) ?_
            refine lv_iushr (v := (iush_ (iush_ ((a0 ^^^ (-1 : Int32)) &&& (a0 - (1 : Int32))) (8 : Int32)) (1 : Int32))) hx hb d_Integer_numberOfTrailingZeros_77 rfl ?_
            refine lv_iadd hx hb d_Integer_numberOfTrailingZeros_78 ?_
            exact ri_ hx hb hr hk (by rw [q_Integer_numberOfTrailingZeros, if_pos c_1, if_pos c_2, if_neg c_3, if_pos c_7, if_pos c_8]) d_Integer_numberOfTrailingZeros_79
          · refine lv_iinc (v := (((1 : Int32) + (8 : Int32)) + (2 : Int32))) (lv' := [(1, .int (((1 : Int32) + (8 : Int32)) + (2 : Int32))), (0, .int (iush_ ((a0 ^^^ (-1 : Int32)) &&& (a0 - (1 : Int32))) (8 : Int32)))]) hx hb d_Integer_numberOfTrailingZeros_67 hl (k := 1) rfl rfl (by decide) rfl (fun ls hl => ?_)
            refine lv_iload_n hx hb d_Integer_numberOfTrailingZeros_70 rfl (lv_at hl 1 rfl) ?_
            refine lv_iconst (v := (2 : Int32)) hx hb d_Integer_numberOfTrailingZeros_71 (by decide) ?_
            refine lv_iushr (v := (iush_ (iush_ ((a0 ^^^ (-1 : Int32)) &&& (a0 - (1 : Int32))) (8 : Int32)) (2 : Int32))) hx hb d_Integer_numberOfTrailingZeros_72 rfl ?_
            refine lv_istore_n (lv' := [(0, .int (iush_ (iush_ ((a0 ^^^ (-1 : Int32)) &&& (a0 - (1 : Int32))) (8 : Int32)) (2 : Int32))), (1, .int (((1 : Int32) + (8 : Int32)) + (2 : Int32)))]) hx hb d_Integer_numberOfTrailingZeros_73 rfl hl (by decide) rfl (fun ls hl => ?_)
            refine lv_iload_n hx hb d_Integer_numberOfTrailingZeros_74 rfl (lv_at hl 1 rfl) ?_
            refine lv_iload_n hx hb d_Integer_numberOfTrailingZeros_75 rfl (lv_at hl 0 rfl) ?_
            refine lv_iconst (v := (1 : Int32)) hx hb d_Integer_numberOfTrailingZeros_76 (by decide) ?_
            refine lv_iushr (v := (iush_ (iush_ (iush_ ((a0 ^^^ (-1 : Int32)) &&& (a0 - (1 : Int32))) (8 : Int32)) (2 : Int32)) (1 : Int32))) hx hb d_Integer_numberOfTrailingZeros_77 rfl ?_
            refine lv_iadd hx hb d_Integer_numberOfTrailingZeros_78 ?_
            exact ri_ hx hb hr hk (by rw [q_Integer_numberOfTrailingZeros, if_pos c_1, if_pos c_2, if_neg c_3, if_pos c_7, if_neg c_8]) d_Integer_numberOfTrailingZeros_79
        · refine lv_iinc (v := (((1 : Int32) + (8 : Int32)) + (4 : Int32))) (lv' := [(1, .int (((1 : Int32) + (8 : Int32)) + (4 : Int32))), (0, .int (iush_ ((a0 ^^^ (-1 : Int32)) &&& (a0 - (1 : Int32))) (8 : Int32)))]) hx hb d_Integer_numberOfTrailingZeros_55 hl (k := 1) rfl rfl (by decide) rfl (fun ls hl => ?_)
          refine lv_iload_n hx hb d_Integer_numberOfTrailingZeros_58 rfl (lv_at hl 1 rfl) ?_
          refine lv_iconst (v := (4 : Int32)) hx hb d_Integer_numberOfTrailingZeros_59 (by decide) ?_
          refine lv_iushr (v := (iush_ (iush_ ((a0 ^^^ (-1 : Int32)) &&& (a0 - (1 : Int32))) (8 : Int32)) (4 : Int32))) hx hb d_Integer_numberOfTrailingZeros_60 rfl ?_
          refine lv_istore_n (lv' := [(0, .int (iush_ (iush_ ((a0 ^^^ (-1 : Int32)) &&& (a0 - (1 : Int32))) (8 : Int32)) (4 : Int32))), (1, .int (((1 : Int32) + (8 : Int32)) + (4 : Int32)))]) hx hb d_Integer_numberOfTrailingZeros_61 rfl hl (by decide) rfl (fun ls hl => ?_)
          refine lv_iload_n hx hb d_Integer_numberOfTrailingZeros_62 rfl (lv_at hl 0 rfl) ?_
          refine lv_iconst (v := (4 : Int32)) hx hb d_Integer_numberOfTrailingZeros_63 (by decide) ?_
          refine lv_icmp_le (tgt := 74) hx hb d_Integer_numberOfTrailingZeros_64 (by decide) (fun c_9 => ?_) (fun c_9 => ?_)
          · refine lv_iload_n hx hb d_Integer_numberOfTrailingZeros_74 rfl (lv_at hl 1 rfl) ?_
            refine lv_iload_n hx hb d_Integer_numberOfTrailingZeros_75 rfl (lv_at hl 0 rfl) ?_
            refine lv_iconst (v := (1 : Int32)) hx hb d_Integer_numberOfTrailingZeros_76 (by decide) ?_
            refine lv_iushr (v := (iush_ (iush_ (iush_ ((a0 ^^^ (-1 : Int32)) &&& (a0 - (1 : Int32))) (8 : Int32)) (4 : Int32)) (1 : Int32))) hx hb d_Integer_numberOfTrailingZeros_77 rfl ?_
            refine lv_iadd hx hb d_Integer_numberOfTrailingZeros_78 ?_
            exact ri_ hx hb hr hk (by rw [q_Integer_numberOfTrailingZeros, if_pos c_1, if_pos c_2, if_neg c_3, if_neg c_7, if_pos c_9]) d_Integer_numberOfTrailingZeros_79
          · refine lv_iinc (v := ((((1 : Int32) + (8 : Int32)) + (4 : Int32)) + (2 : Int32))) (lv' := [(1, .int ((((1 : Int32) + (8 : Int32)) + (4 : Int32)) + (2 : Int32))), (0, .int (iush_ (iush_ ((a0 ^^^ (-1 : Int32)) &&& (a0 - (1 : Int32))) (8 : Int32)) (4 : Int32)))]) hx hb d_Integer_numberOfTrailingZeros_67 hl (k := 1) rfl rfl (by decide) rfl (fun ls hl => ?_)
            refine lv_iload_n hx hb d_Integer_numberOfTrailingZeros_70 rfl (lv_at hl 1 rfl) ?_
            refine lv_iconst (v := (2 : Int32)) hx hb d_Integer_numberOfTrailingZeros_71 (by decide) ?_
            refine lv_iushr (v := (iush_ (iush_ (iush_ ((a0 ^^^ (-1 : Int32)) &&& (a0 - (1 : Int32))) (8 : Int32)) (4 : Int32)) (2 : Int32))) hx hb d_Integer_numberOfTrailingZeros_72 rfl ?_
            refine lv_istore_n (lv' := [(0, .int (iush_ (iush_ (iush_ ((a0 ^^^ (-1 : Int32)) &&& (a0 - (1 : Int32))) (8 : Int32)) (4 : Int32)) (2 : Int32))), (1, .int ((((1 : Int32) + (8 : Int32)) + (4 : Int32)) + (2 : Int32)))]) hx hb d_Integer_numberOfTrailingZeros_73 rfl hl (by decide) rfl (fun ls hl => ?_)
            refine lv_iload_n hx hb d_Integer_numberOfTrailingZeros_74 rfl (lv_at hl 1 rfl) ?_
            refine lv_iload_n hx hb d_Integer_numberOfTrailingZeros_75 rfl (lv_at hl 0 rfl) ?_
            refine lv_iconst (v := (1 : Int32)) hx hb d_Integer_numberOfTrailingZeros_76 (by decide) ?_
            refine lv_iushr (v := (iush_ (iush_ (iush_ (iush_ ((a0 ^^^ (-1 : Int32)) &&& (a0 - (1 : Int32))) (8 : Int32)) (4 : Int32)) (2 : Int32)) (1 : Int32))) hx hb d_Integer_numberOfTrailingZeros_77 rfl ?_
            refine lv_iadd hx hb d_Integer_numberOfTrailingZeros_78 ?_
            exact ri_ hx hb hr hk (by rw [q_Integer_numberOfTrailingZeros, if_pos c_1, if_pos c_2, if_neg c_3, if_neg c_7, if_neg c_9]) d_Integer_numberOfTrailingZeros_79
    · refine lv_iinc (v := ((1 : Int32) + (16 : Int32))) (lv' := [(1, .int ((1 : Int32) + (16 : Int32))), (0, .int ((a0 ^^^ (-1 : Int32)) &&& (a0 - (1 : Int32))))]) hx hb d_Integer_numberOfTrailingZeros_26 hl (k := 0) rfl rfl (by decide) rfl (fun ls hl => ?_)
      refine lv_iload_n hx hb d_Integer_numberOfTrailingZeros_29 rfl (lv_at hl 1 rfl) ?_
      refine lv_bipush (v := (16 : Int32)) hx hb d_Integer_numberOfTrailingZeros_30 (by decide) ?_
      refine lv_iushr (v := (iush_ ((a0 ^^^ (-1 : Int32)) &&& (a0 - (1 : Int32))) (16 : Int32))) hx hb d_Integer_numberOfTrailingZeros_32 rfl ?_
      refine lv_istore_n (lv' := [(0, .int (iush_ ((a0 ^^^ (-1 : Int32)) &&& (a0 - (1 : Int32))) (16 : Int32))), (1, .int ((1 : Int32) + (16 : Int32)))]) hx hb d_Integer_numberOfTrailingZeros_33 rfl hl (by decide) rfl (fun ls hl => ?_)
      refine lv_iload_n hx hb d_Integer_numberOfTrailingZeros_34 rfl (lv_at hl 0 rfl) ?_
      refine lv_sipush (v := (256 : Int32)) hx hb d_Integer_numberOfTrailingZeros_35 (by decide) ?_
      refine lv_icmp_le (tgt := 49) hx hb d_Integer_numberOfTrailingZeros_38 (by decide) (fun c_10 => ?_) (fun c_10 => ?_)
      · refine lv_iload_n hx hb d_Integer_numberOfTrailingZeros_49 rfl (lv_at hl 0 rfl) ?_
        refine lv_bipush (v := (16 : Int32)) hx hb d_Integer_numberOfTrailingZeros_50 (by decide) ?_
        refine lv_icmp_le (tgt := 62) hx hb d_Integer_numberOfTrailingZeros_52 (by decide) (fun c_11 => ?_) (fun c_11 => ?_)
        · refine lv_iload_n hx hb d_Integer_numberOfTrailingZeros_62 rfl (lv_at hl 0 rfl) ?_
          refine lv_iconst (v := (4 : Int32)) hx hb d_Integer_numberOfTrailingZeros_63 (by decide) ?_
          refine lv_icmp_le (tgt := 74) hx hb d_Integer_numberOfTrailingZeros_64 (by decide) (fun c_12 => ?_) (fun c_12 => ?_)
          · refine lv_iload_n hx hb d_Integer_numberOfTrailingZeros_74 rfl (lv_at hl 1 rfl) ?_
            refine lv_iload_n hx hb d_Integer_numberOfTrailingZeros_75 rfl (lv_at hl 0 rfl) ?_
            refine lv_iconst (v := (1 : Int32)) hx hb d_Integer_numberOfTrailingZeros_76 (by decide) ?_
            refine lv_iushr (v := (iush_ (iush_ ((a0 ^^^ (-1 : Int32)) &&& (a0 - (1 : Int32))) (16 : Int32)) (1 : Int32))) hx hb d_Integer_numberOfTrailingZeros_77 rfl ?_
            refine lv_iadd hx hb d_Integer_numberOfTrailingZeros_78 ?_
            exact ri_ hx hb hr hk (by rw [q_Integer_numberOfTrailingZeros, if_pos c_1, if_neg c_2, if_pos c_10, if_pos c_11, if_pos c_12]) d_Integer_numberOfTrailingZeros_79
          · refine lv_iinc (v := (((1 : Int32) + (16 : Int32)) + (2 : Int32))) (lv' := [(1, .int (((1 : Int32) + (16 : Int32)) + (2 : Int32))), (0, .int (iush_ ((a0 ^^^ (-1 : Int32)) &&& (a0 - (1 : Int32))) (16 : Int32)))]) hx hb d_Integer_numberOfTrailingZeros_67 hl (k := 1) rfl rfl (by decide) rfl (fun ls hl => ?_)
            refine lv_iload_n hx hb d_Integer_numberOfTrailingZeros_70 rfl (lv_at hl 1 rfl) ?_
            refine lv_iconst (v := (2 : Int32)) hx hb d_Integer_numberOfTrailingZeros_71 (by decide) ?_
            refine lv_iushr (v := (iush_ (iush_ ((a0 ^^^ (-1 : Int32)) &&& (a0 - (1 : Int32))) (16 : Int32)) (2 : Int32))) hx hb d_Integer_numberOfTrailingZeros_72 rfl ?_
            refine lv_istore_n (lv' := [(0, .int (iush_ (iush_ ((a0 ^^^ (-1 : Int32)) &&& (a0 - (1 : Int32))) (16 : Int32)) (2 : Int32))), (1, .int (((1 : Int32) + (16 : Int32)) + (2 : Int32)))]) hx hb d_Integer_numberOfTrailingZeros_73 rfl hl (by decide) rfl (fun ls hl => ?_)
            refine lv_iload_n hx hb d_Integer_numberOfTrailingZeros_74 rfl (lv_at hl 1 rfl) ?_
            refine lv_iload_n hx hb d_Integer_numberOfTrailingZeros_75 rfl (lv_at hl 0 rfl) ?_
            refine lv_iconst (v := (1 : Int32)) hx hb d_Integer_numberOfTrailingZeros_76 (by decide) ?_
            refine lv_iushr (v := (iush_ (iush_ (iush_ ((a0 ^^^ (-1 : Int32)) &&& (a0 - (1 : Int32))) (16 : Int32)) (2 : Int32)) (1 : Int32))) hx hb d_Integer_numberOfTrailingZeros_77 rfl ?_
            refine lv_iadd hx hb d_Integer_numberOfTrailingZeros_78 ?_
            exact ri_ hx hb hr hk (by rw [q_Integer_numberOfTrailingZeros, if_pos c_1, if_neg c_2, if_pos c_10, if_pos c_11, if_neg c_12]) d_Integer_numberOfTrailingZeros_79
        · refine lv_iinc (v := (((1 : Int32) + (16 : Int32)) + (4 : Int32))) (lv' := [(1, .int (((1 : Int32) + (16 : Int32)) + (4 : Int32))), (0, .int (iush_ ((a0 ^^^ (-1 : Int32)) &&& (a0 - (1 : Int32))) (16 : Int32)))]) hx hb d_Integer_numberOfTrailingZeros_55 hl (k := 1) rfl rfl (by decide) rfl (fun ls hl => ?_)
          refine lv_iload_n hx hb d_Integer_numberOfTrailingZeros_58 rfl (lv_at hl 1 rfl) ?_
          refine lv_iconst (v := (4 : Int32)) hx hb d_Integer_numberOfTrailingZeros_59 (by decide) ?_
          refine lv_iushr (v := (iush_ (iush_ ((a0 ^^^ (-1 : Int32)) &&& (a0 - (1 : Int32))) (16 : Int32)) (4 : Int32))) hx hb d_Integer_numberOfTrailingZeros_60 rfl ?_
          refine lv_istore_n (lv' := [(0, .int (iush_ (iush_ ((a0 ^^^ (-1 : Int32)) &&& (a0 - (1 : Int32))) (16 : Int32)) (4 : Int32))), (1, .int (((1 : Int32) + (16 : Int32)) + (4 : Int32)))]) hx hb d_Integer_numberOfTrailingZeros_61 rfl hl (by decide) rfl (fun ls hl => ?_)
          refine lv_iload_n hx hb d_Integer_numberOfTrailingZeros_62 rfl (lv_at hl 0 rfl) ?_
          refine lv_iconst (v := (4 : Int32)) hx hb d_Integer_numberOfTrailingZeros_63 (by decide) ?_
          refine lv_icmp_le (tgt := 74) hx hb d_Integer_numberOfTrailingZeros_64 (by decide) (fun c_13 => ?_) (fun c_13 => ?_)
          · refine lv_iload_n hx hb d_Integer_numberOfTrailingZeros_74 rfl (lv_at hl 1 rfl) ?_
            refine lv_iload_n hx hb d_Integer_numberOfTrailingZeros_75 rfl (lv_at hl 0 rfl) ?_
            refine lv_iconst (v := (1 : Int32)) hx hb d_Integer_numberOfTrailingZeros_76 (by decide) ?_
            refine lv_iushr (v := (iush_ (iush_ (iush_ ((a0 ^^^ (-1 : Int32)) &&& (a0 - (1 : Int32))) (16 : Int32)) (4 : Int32)) (1 : Int32))) hx hb d_Integer_numberOfTrailingZeros_77 rfl ?_
            refine lv_iadd hx hb d_Integer_numberOfTrailingZeros_78 ?_
            exact ri_ hx hb hr hk (by rw [q_Integer_numberOfTrailingZeros, if_pos c_1, if_neg c_2, if_pos c_10, if_neg c_11, if_pos c_13]) d_Integer_numberOfTrailingZeros_79
          · refine lv_iinc (v := ((((1 : Int32) + (16 : Int32)) + (4 : Int32)) + (2 : Int32))) (lv' := [(1, .int ((((1 : Int32) + (16 : Int32)) + (4 : Int32)) + (2 : Int32))), (0, .int (iush_ (iush_ ((a0 ^^^ (-1 : Int32)) &&& (a0 - (1 : Int32))) (16 : Int32)) (4 : Int32)))]) hx hb d_Integer_numberOfTrailingZeros_67 hl (k := 1) rfl rfl (by decide) rfl (fun ls hl => ?_)
            refine lv_iload_n hx hb d_Integer_numberOfTrailingZeros_70 rfl (lv_at hl 1 rfl) ?_
            refine lv_iconst (v := (2 : Int32)) hx hb d_Integer_numberOfTrailingZeros_71 (by decide) ?_
            refine lv_iushr (v := (iush_ (iush_ (iush_ ((a0 ^^^ (-1 : Int32)) &&& (a0 - (1 : Int32))) (16 : Int32)) (4 : Int32)) (2 : Int32))) hx hb d_Integer_numberOfTrailingZeros_72 rfl ?_
            refine lv_istore_n (lv' := [(0, .int (iush_ (iush_ (iush_ ((a0 ^^^ (-1 : Int32)) &&& (a0 - (1 : Int32))) (16 : Int32)) (4 : Int32)) (2 : Int32))), (1, .int ((((1 : Int32) + (16 : Int32)) + (4 : Int32)) + (2 : Int32)))]) hx hb d_Integer_numberOfTrailingZeros_73 rfl hl (by decide) rfl (fun ls hl => ?_)
            refine lv_iload_n hx hb d_Integer_numberOfTrailingZeros_74 rfl (lv_at hl 1 rfl) ?_
            refine lv_iload_n hx hb d_Integer_numberOfTrailingZeros_75 rfl (lv_at hl 0 rfl) ?_
            refine lv_iconst (v := (1 : Int32)) hx hb d_Integer_numberOfTrailingZeros_76 (by decide) ?_
            refine lv_iushr (v := (iush_ (iush_ (iush_ (iush_ ((a0 ^^^ (-1 : Int32)) &&& (a0 - (1 : Int32))) (16 : Int32)) (4 : Int32)) (2 : Int32)) (1 : Int32))) hx hb d_Integer_numberOfTrailingZeros_77 rfl ?_
            refine lv_iadd hx hb d_Integer_numberOfTrailingZeros_78 ?_
            exact ri_ hx hb hr hk (by rw [q_Integer_numberOfTrailingZeros, if_pos c_1, if_neg c_2, if_pos c_10, if_neg c_11, if_neg c_13]) d_Integer_numberOfTrailingZeros_79
      · refine lv_iinc (v := (((1 : Int32) + (16 : Int32)) + (8 : Int32))) (lv' := [(1, .int (((1 : Int32) + (16 : Int32)) + (8 : Int32))), (0, .int (iush_ ((a0 ^^^ (-1 : Int32)) &&& (a0 - (1 : Int32))) (16 : Int32)))]) hx hb d_Integer_numberOfTrailingZeros_41 hl (k := 1) rfl rfl (by decide) rfl (fun ls hl => ?_)
        refine lv_iload_n hx hb d_Integer_numberOfTrailingZeros_44 rfl (lv_at hl 1 rfl) ?_
        refine lv_bipush (v := (8 : Int32)) hx hb d_Integer_numberOfTrailingZeros_45 (by decide) ?_
        refine lv_iushr (v := (iush_ (iush_ ((a0 ^^^ (-1 : Int32)) &&& (a0 - (1 : Int32))) (16 : Int32)) (8 : Int32))) hx hb d_Integer_numberOfTrailingZeros_47 rfl ?_
        refine lv_istore_n (lv' := [(0, .int (iush_ (iush_ ((a0 ^^^ (-1 : Int32)) &&& (a0 - (1 : Int32))) (16 : Int32)) (8 : Int32))), (1, .int (((1 : Int32) + (16 : Int32)) + (8 : Int32)))]) hx hb d_Integer_numberOfTrailingZeros_48 rfl hl (by decide) rfl (fun ls hl => ?_)
        refine lv_iload_n hx hb d_Integer_numberOfTrailingZeros_49 rfl (lv_at hl 0 rfl) ?_
        refine lv_bipush (v := (16 : Int32)) hx hb d_Integer_numberOfTrailingZeros_50 (by decide) ?_
        refine lv_icmp_le (tgt := 62) hx hb d_Integer_numberOfTrailingZeros_52 (by decide) (fun c_14 => ?_) (fun c_14 => ?_)
        · refine lv_iload_n hx hb d_Integer_numberOfTrailingZeros_62 rfl (lv_at hl 0 rfl) ?_
          refine lv_iconst (v := (4 : Int32)) hx hb d_Integer_numberOfTrailingZeros_63 (by decide) ?_
          refine lv_icmp_le (tgt := 74) hx hb d_Integer_numberOfTrailingZeros_64 (by decide) (fun c_15 => ?_) (fun c_15 => ?_)
          · refine lv_iload_n hx hb d_Integer_numberOfTrailingZeros_74 rfl (lv_at hl 1 rfl) ?_
            refine lv_iload_n hx hb d_Integer_numberOfTrailingZeros_75 rfl (lv_at hl 0 rfl) ?_
            refine lv_iconst (v := (1 : Int32)) hx hb d_Integer_numberOfTrailingZeros_76 (by decide) ?_
            refine lv_iushr (v := (iush_ (iush_ (iush_ ((a0 ^^^ (-1 : Int32)) &&& (a0 - (1 : Int32))) (16 : Int32)) (8 : Int32)) (1 : Int32))) hx hb d_Integer_numberOfTrailingZeros_77 rfl ?_
            refine lv_iadd hx hb d_Integer_numberOfTrailingZeros_78 ?_
            exact ri_ hx hb hr hk (by rw [q_Integer_numberOfTrailingZeros, if_pos c_1, if_neg c_2, if_neg c_10, if_pos c_14, if_pos c_15]) d_Integer_numberOfTrailingZeros_79
          · refine lv_iinc (v := ((((1 : Int32) + (16 : Int32)) + (8 : Int32)) + (2 : Int32))) (lv' := [(1, .int ((((1 : Int32) + (16 : Int32)) + (8 : Int32)) + (2 : Int32))), (0, .int (iush_ (iush_ ((a0 ^^^ (-1 : Int32)) &&& (a0 - (1 : Int32))) (16 : Int32)) (8 : Int32)))]) hx hb d_Integer_numberOfTrailingZeros_67 hl (k := 1) rfl rfl (by decide) rfl (fun ls hl => ?_)
            refine lv_iload_n hx hb d_Integer_numberOfTrailingZeros_70 rfl (lv_at hl 1 rfl) ?_
            refine lv_iconst (v := (2 : Int32)) hx hb d_Integer_numberOfTrailingZeros_71 (by decide) ?_
            refine lv_iushr (v := (iush_ (iush_ (iush_ ((a0 ^^^ (-1 : Int32)) &&& (a0 - (1 : Int32))) (16 : Int32)) (8 : Int32)) (2 : Int32))) hx hb d_Integer_numberOfTrailingZeros_72 rfl ?_
            refine lv_istore_n (lv' := [(0, .int (iush_ (iush_ (iush_ ((a0 ^^^ (-1 : Int32)) &&& (a0 - (1 : Int32))) (16 : Int32)) (8 : Int32)) (2 : Int32))), (1, .int ((((1 : Int32) + (16 : Int32)) + (8 : Int32)) + (2 : Int32)))]) hx hb d_Integer_numberOfTrailingZeros_73 rfl hl (by decide) rfl (fun ls hl => ?_)
            refine lv_iload_n hx hb d_Integer_numberOfTrailingZeros_74 rfl (lv_at hl 1 rfl) ?_
            refine lv_iload_n hx hb d_Integer_numberOfTrailingZeros_75 rfl (lv_at hl 0 rfl) ?_
            refine lv_iconst (v := (1 : Int32)) hx hb d_Integer_numberOfTrailingZeros_76 (by decide) ?_
            refine lv_iushr (v := (iush_ (iush_ (iush_ (iush_ ((a0 ^^^ (-1 : Int32)) &&& (a0 - (1 : Int32))) (16 : Int32)) (8 : Int32)) (2 : Int32)) (1 : Int32))) hx hb d_Integer_numberOfTrailingZeros_77 rfl ?_
            refine lv_iadd hx hb d_Integer_numberOfTrailingZeros_78 ?_
            exact ri_ hx hb hr hk (by rw [q_Integer_numberOfTrailingZeros, if_pos c_1, if_neg c_2, if_neg c_10, if_pos c_14, if_neg c_15]) d_Integer_numberOfTrailingZeros_79
        · refine lv_iinc (v := ((((1 : Int32) + (16 : Int32)) + (8 : Int32)) + (4 : Int32))) (lv' := [(1, .int ((((1 : Int32) + (16 : Int32)) + (8 : Int32)) + (4 : Int32))), (0, .int (iush_ (iush_ ((a0 ^^^ (-1 : Int32)) &&& (a0 - (1 : Int32))) (16 : Int32)) (8 : Int32)))]) hx hb d_Integer_numberOfTrailingZeros_55 hl (k := 1) rfl rfl (by decide) rfl (fun ls hl => ?_)
          refine lv_iload_n hx hb d_Integer_numberOfTrailingZeros_58 rfl (lv_at hl 1 rfl) ?_
          refine lv_iconst (v := (4 : Int32)) hx hb d_Integer_numberOfTrailingZeros_59 (by decide) ?_
          refine lv_iushr (v := (iush_ (iush_ (iush_ ((a0 ^^^ (-1 : Int32)) &&& (a0 - (1 : Int32))) (16 : Int32)) (8 : Int32)) (4 : Int32))) hx hb d_Integer_numberOfTrailingZeros_60 rfl ?_
          refine lv_istore_n (lv' := [(0, .int (iush_ (iush_ (iush_ ((a0 ^^^ (-1 : Int32)) &&& (a0 - (1 : Int32))) (16 : Int32)) (8 : Int32)) (4 : Int32))), (1, .int ((((1 : Int32) + (16 : Int32)) + (8 : Int32)) + (4 : Int32)))]) hx hb d_Integer_numberOfTrailingZeros_61 rfl hl (by decide) rfl (fun ls hl => ?_)
          refine lv_iload_n hx hb d_Integer_numberOfTrailingZeros_62 rfl (lv_at hl 0 rfl) ?_
          refine lv_iconst (v := (4 : Int32)) hx hb d_Integer_numberOfTrailingZeros_63 (by decide) ?_
          refine lv_icmp_le (tgt := 74) hx hb d_Integer_numberOfTrailingZeros_64 (by decide) (fun c_16 => ?_) (fun c_16 => ?_)
          · refine lv_iload_n hx hb d_Integer_numberOfTrailingZeros_74 rfl (lv_at hl 1 rfl) ?_
            refine lv_iload_n hx hb d_Integer_numberOfTrailingZeros_75 rfl (lv_at hl 0 rfl) ?_
            refine lv_iconst (v := (1 : Int32)) hx hb d_Integer_numberOfTrailingZeros_76 (by decide) ?_
            refine lv_iushr (v := (iush_ (iush_ (iush_ (iush_ ((a0 ^^^ (-1 : Int32)) &&& (a0 - (1 : Int32))) (16 : Int32)) (8 : Int32)) (4 : Int32)) (1 : Int32))) hx hb d_Integer_numberOfTrailingZeros_77 rfl ?_
            refine lv_iadd hx hb d_Integer_numberOfTrailingZeros_78 ?_
            exact ri_ hx hb hr hk (by rw [q_Integer_numberOfTrailingZeros, if_pos c_1, if_neg c_2, if_neg c_10, if_neg c_14, if_pos c_16]) d_Integer_numberOfTrailingZeros_79
          · refine lv_iinc (v := (((((1 : Int32) + (16 : Int32)) + (8 : Int32)) + (4 : Int32)) + (2 : Int32))) (lv' := [(1, .int (((((1 : Int32) + (16 : Int32)) + (8 : Int32)) + (4 : Int32)) + (2 : Int32))), (0, .int (iush_ (iush_ (iush_ ((a0 ^^^ (-1 : Int32)) &&& (a0 - (1 : Int32))) (16 : Int32)) (8 : Int32)) (4 : Int32)))]) hx hb d_Integer_numberOfTrailingZeros_67 hl (k := 1) rfl rfl (by decide) rfl (fun ls hl => ?_)
            refine lv_iload_n hx hb d_Integer_numberOfTrailingZeros_70 rfl (lv_at hl 1 rfl) ?_
            refine lv_iconst (v := (2 : Int32)) hx hb d_Integer_numberOfTrailingZeros_71 (by decide) ?_
            refine lv_iushr (v := (iush_ (iush_ (iush_ (iush_ ((a0 ^^^ (-1 : Int32)) &&& (a0 - (1 : Int32))) (16 : Int32)) (8 : Int32)) (4 : Int32)) (2 : Int32))) hx hb d_Integer_numberOfTrailingZeros_72 rfl ?_
            refine lv_istore_n (lv' := [(0, .int (iush_ (iush_ (iush_ (iush_ ((a0 ^^^ (-1 : Int32)) &&& (a0 - (1 : Int32))) (16 : Int32)) (8 : Int32)) (4 : Int32)) (2 : Int32))), (1, .int (((((1 : Int32) + (16 : Int32)) + (8 : Int32)) + (4 : Int32)) + (2 : Int32)))]) hx hb d_Integer_numberOfTrailingZeros_73 rfl hl (by decide) rfl (fun ls hl => ?_)
            refine lv_iload_n hx hb d_Integer_numberOfTrailingZeros_74 rfl (lv_at hl 1 rfl) ?_
            refine lv_iload_n hx hb d_Integer_numberOfTrailingZeros_75 rfl (lv_at hl 0 rfl) ?_
            refine lv_iconst (v := (1 : Int32)) hx hb d_Integer_numberOfTrailingZeros_76 (by decide) ?_
            refine lv_iushr (v := (iush_ (iush_ (iush_ (iush_ (iush_ ((a0 ^^^ (-1 : Int32)) &&& (a0 - (1 : Int32))) (16 : Int32)) (8 : Int32)) (4 : Int32)) (2 : Int32)) (1 : Int32))) hx hb d_Integer_numberOfTrailingZeros_77 rfl ?_
            refine lv_iadd hx hb d_Integer_numberOfTrailingZeros_78 ?_
            exact ri_ hx hb hr hk (by rw [q_Integer_numberOfTrailingZeros, if_pos c_1, if_neg c_2, if_neg c_10, if_neg c_14, if_neg c_16]) d_Integer_numberOfTrailingZeros_79
  · refine lv_iload_n hx hb d_Integer_numberOfTrailingZeros_12 rfl (lv_at hl 0 rfl) ?_
    refine lv_bipush (v := (32 : Int32)) hx hb d_Integer_numberOfTrailingZeros_13 (by decide) ?_
    refine lv_iand hx hb d_Integer_numberOfTrailingZeros_15 ?_
    exact ri_ hx hb hr hk (by rw [q_Integer_numberOfTrailingZeros, if_neg c_1]) d_Integer_numberOfTrailingZeros_16
def q_Long_numberOfTrailingZeros (a0 : Int64) : Int32 :=
  if (Int64.toInt32 a0) = 0 then
    ((32 : Int32) + (q_Integer_numberOfTrailingZeros (Int64.toInt32 (ush_ a0 (32 : Int32)))))
  else
    (q_Integer_numberOfTrailingZeros (Int64.toInt32 a0))
theorem kB_Long_numberOfTrailingZeros : SB y_Long_numberOfTrailingZeros b_Long_numberOfTrailingZeros 3 (some .int) 1 := ⟨wd_20, wd_21, wd_7, by decide +kernel⟩
set_option maxHeartbeats 4000000 in
set_option maxRecDepth 100000 in
theorem c_Long_numberOfTrailingZeros (l : Launch) (A : Nat → Prop) (ad : Nat → Nat) (a0 : Int64) : Met l y_Long_numberOfTrailingZeros (Cond.code y_Long_numberOfTrailingZeros b_Long_numberOfTrailingZeros 3 (some .int) :: BT) ({ frames := 1, cells := 0, slots := 0, locals := 21 }) (PC A ad [.long a0]) (vp_Si (fun r => r = q_Long_numberOfTrailingZeros a0)) 0 0 (fun _ => False) := by
  refine pm_ (by decide +kernel) (Nat.le_of_ble_eq_true rfl) ?_
  intro p e s m below meth c hq hr hk ls hl
  have hx := hq.1
  have hb := hq.2.1
  have hts := hq.2.2.2.2.1
  have hl : lv_has ls 3 [(0, .long a0)] := hl
  refine lv_lload_n hx hb d_Long_numberOfTrailingZeros_0 rfl (lv_at hl 0 rfl) ?_
  refine lv_l2i (v := (Int64.toInt32 a0)) hx hb d_Long_numberOfTrailingZeros_1 rfl ?_
  refine lv_istore_n (lv' := [(2, .int (Int64.toInt32 a0)), (0, .long a0)]) hx hb d_Long_numberOfTrailingZeros_2 rfl hl (by decide) rfl (fun ls hl => ?_)
  refine lv_iload_n hx hb d_Long_numberOfTrailingZeros_3 rfl (lv_at hl 0 rfl) ?_
  refine lv_if_ne (tgt := 21) hx hb d_Long_numberOfTrailingZeros_4 (by decide) (fun c_1 => ?_) (fun c_1 => ?_)
  · refine lv_iload_n hx hb d_Long_numberOfTrailingZeros_21 rfl (lv_at hl 0 rfl) ?_
    refine si_ (As := [.int (Int64.toInt32 a0)]) (rest := []) hq (c_Integer_numberOfTrailingZeros l A ad (Int64.toInt32 a0)) kB_Integer_numberOfTrailingZeros wd_19 ⟨rfl, rfl, Nat.le_of_ble_eq_true rfl, Nat.le_of_ble_eq_true rfl⟩ rfl hl.1 rfl (Nat.le_of_ble_eq_true rfl) d_Long_numberOfTrailingZeros_22 ⟨Nat.zero_le _, Nat.zero_le _⟩ ?_
    exact ri_ hx hb hr hk (by rw [q_Long_numberOfTrailingZeros, if_neg c_1]) d_Long_numberOfTrailingZeros_25
  · refine lv_bipush (v := (32 : Int32)) hx hb d_Long_numberOfTrailingZeros_7 (by decide) ?_
    refine lv_lload_n hx hb d_Long_numberOfTrailingZeros_9 rfl (lv_at hl 1 rfl) ?_
    refine lv_bipush (v := (32 : Int32)) hx hb d_Long_numberOfTrailingZeros_10 (by decide) ?_
    refine lv_lushr (v := (ush_ a0 (32 : Int32))) hx hb d_Long_numberOfTrailingZeros_12 rfl ?_
    refine lv_l2i (v := (Int64.toInt32 (ush_ a0 (32 : Int32)))) hx hb d_Long_numberOfTrailingZeros_13 rfl ?_
    refine si_ (As := [.int (Int64.toInt32 (ush_ a0 (32 : Int32)))]) (rest := [.int (32 : Int32)]) hq (c_Integer_numberOfTrailingZeros l A ad (Int64.toInt32 (ush_ a0 (32 : Int32)))) kB_Integer_numberOfTrailingZeros wd_19 ⟨rfl, rfl, Nat.le_of_ble_eq_true rfl, Nat.le_of_ble_eq_true rfl⟩ rfl hl.1 rfl (Nat.le_of_ble_eq_true rfl) d_Long_numberOfTrailingZeros_14 ⟨Nat.zero_le _, Nat.zero_le _⟩ ?_
    refine lv_iadd hx hb d_Long_numberOfTrailingZeros_17 ?_
    refine lv_goto (tgt := 25) hx hb d_Long_numberOfTrailingZeros_18 (by decide) ?_
    exact ri_ hx hb hr hk (by rw [q_Long_numberOfTrailingZeros, if_pos c_1]) d_Long_numberOfTrailingZeros_25
def q_Long_bitCount (a0 : Int64) : Int32 :=
  ((Int64.toInt32 ((((((((a0 - ((ush_ a0 (1 : Int32)) &&& (6148914691236517205 : Int64))) &&& (3689348814741910323 : Int64)) + ((ush_ (a0 - ((ush_ a0 (1 : Int32)) &&& (6148914691236517205 : Int64))) (2 : Int32)) &&& (3689348814741910323 : Int64))) + (ush_ (((a0 - ((ush_ a0 (1 : Int32)) &&& (6148914691236517205 : Int64))) &&& (3689348814741910323 : Int64)) + ((ush_ (a0 - ((ush_ a0 (1 : Int32)) &&& (6148914691236517205 : Int64))) (2 : Int32)) &&& (3689348814741910323 : Int64))) (4 : Int32))) &&& (1085102592571150095 : Int64)) + (ush_ (((((a0 - ((ush_ a0 (1 : Int32)) &&& (6148914691236517205 : Int64))) &&& (3689348814741910323 : Int64)) + ((ush_ (a0 - ((ush_ a0 (1 : Int32)) &&& (6148914691236517205 : Int64))) (2 : Int32)) &&& (3689348814741910323 : Int64))) + (ush_ (((a0 - ((ush_ a0 (1 : Int32)) &&& (6148914691236517205 : Int64))) &&& (3689348814741910323 : Int64)) + ((ush_ (a0 - ((ush_ a0 (1 : Int32)) &&& (6148914691236517205 : Int64))) (2 : Int32)) &&& (3689348814741910323 : Int64))) (4 : Int32))) &&& (1085102592571150095 : Int64)) (8 : Int32))) + (ush_ ((((((a0 - ((ush_ a0 (1 : Int32)) &&& (6148914691236517205 : Int64))) &&& (3689348814741910323 : Int64)) + ((ush_ (a0 - ((ush_ a0 (1 : Int32)) &&& (6148914691236517205 : Int64))) (2 : Int32)) &&& (3689348814741910323 : Int64))) + (ush_ (((a0 - ((ush_ a0 (1 : Int32)) &&& (6148914691236517205 : Int64))) &&& (3689348814741910323 : Int64)) + ((ush_ (a0 - ((ush_ a0 (1 : Int32)) &&& (6148914691236517205 : Int64))) (2 : Int32)) &&& (3689348814741910323 : Int64))) (4 : Int32))) &&& (1085102592571150095 : Int64)) + (ush_ (((((a0 - ((ush_ a0 (1 : Int32)) &&& (6148914691236517205 : Int64))) &&& (3689348814741910323 : Int64)) + ((ush_ (a0 - ((ush_ a0 (1 : Int32)) &&& (6148914691236517205 : Int64))) (2 : Int32)) &&& (3689348814741910323 : Int64))) + (ush_ (((a0 - ((ush_ a0 (1 : Int32)) &&& (6148914691236517205 : Int64))) &&& (3689348814741910323 : Int64)) + ((ush_ (a0 - ((ush_ a0 (1 : Int32)) &&& (6148914691236517205 : Int64))) (2 : Int32)) &&& (3689348814741910323 : Int64))) (4 : Int32))) &&& (1085102592571150095 : Int64)) (8 : Int32))) (16 : Int32))) + (ush_ (((((((a0 - ((ush_ a0 (1 : Int32)) &&& (6148914691236517205 : Int64))) &&& (3689348814741910323 : Int64)) + ((ush_ (a0 - ((ush_ a0 (1 : Int32)) &&& (6148914691236517205 : Int64))) (2 : Int32)) &&& (3689348814741910323 : Int64))) + (ush_ (((a0 - ((ush_ a0 (1 : Int32)) &&& (6148914691236517205 : Int64))) &&& (3689348814741910323 : Int64)) + ((ush_ (a0 - ((ush_ a0 (1 : Int32)) &&& (6148914691236517205 : Int64))) (2 : Int32)) &&& (3689348814741910323 : Int64))) (4 : Int32))) &&& (1085102592571150095 : Int64)) + (ush_ (((((a0 - ((ush_ a0 (1 : Int32)) &&& (6148914691236517205 : Int64))) &&& (3689348814741910323 : Int64)) + ((ush_ (a0 - ((ush_ a0 (1 : Int32)) &&& (6148914691236517205 : Int64))) (2 : Int32)) &&& (3689348814741910323 : Int64))) + (ush_ (((a0 - ((ush_ a0 (1 : Int32)) &&& (6148914691236517205 : Int64))) &&& (3689348814741910323 : Int64)) + ((ush_ (a0 - ((ush_ a0 (1 : Int32)) &&& (6148914691236517205 : Int64))) (2 : Int32)) &&& (3689348814741910323 : Int64))) (4 : Int32))) &&& (1085102592571150095 : Int64)) (8 : Int32))) + (ush_ ((((((a0 - ((ush_ a0 (1 : Int32)) &&& (6148914691236517205 : Int64))) &&& (3689348814741910323 : Int64)) + ((ush_ (a0 - ((ush_ a0 (1 : Int32)) &&& (6148914691236517205 : Int64))) (2 : Int32)) &&& (3689348814741910323 : Int64))) + (ush_ (((a0 - ((ush_ a0 (1 : Int32)) &&& (6148914691236517205 : Int64))) &&& (3689348814741910323 : Int64)) + ((ush_ (a0 - ((ush_ a0 (1 : Int32)) &&& (6148914691236517205 : Int64))) (2 : Int32)) &&& (3689348814741910323 : Int64))) (4 : Int32))) &&& (1085102592571150095 : Int64)) + (ush_ (((((a0 - ((ush_ a0 (1 : Int32)) &&& (6148914691236517205 : Int64))) &&& (3689348814741910323 : Int64)) + ((ush_ (a0 - ((ush_ a0 (1 : Int32)) &&& (6148914691236517205 : Int64))) (2 : Int32)) &&& (3689348814741910323 : Int64))) + (ush_ (((a0 - ((ush_ a0 (1 : Int32)) &&& (6148914691236517205 : Int64))) &&& (3689348814741910323 : Int64)) + ((ush_ (a0 - ((ush_ a0 (1 : Int32)) &&& (6148914691236517205 : Int64))) (2 : Int32)) &&& (3689348814741910323 : Int64))) (4 : Int32))) &&& (1085102592571150095 : Int64)) (8 : Int32))) (16 : Int32))) (32 : Int32)))) &&& (127 : Int32))
theorem kB_Long_bitCount : SB y_Long_bitCount b_Long_bitCount 2 (some .int) 1 := ⟨wd_25, wd_26, wd_7, by decide +kernel⟩
set_option maxHeartbeats 4000000 in
set_option maxRecDepth 100000 in
theorem c_Long_bitCount (l : Launch) (A : Nat → Prop) (ad : Nat → Nat) (a0 : Int64) : Met l y_Long_bitCount (Cond.code y_Long_bitCount b_Long_bitCount 2 (some .int) :: BT) ({ frames := 0, cells := 0, slots := 0, locals := 0 }) (PC A ad [.long a0]) (vp_Si (fun r => r = q_Long_bitCount a0)) 0 0 (fun _ => False) := by
  refine pm_ (by decide +kernel) (Nat.le_of_ble_eq_true rfl) ?_
  intro p e s m below meth c hq hr hk ls hl
  have hx := hq.1
  have hb := hq.2.1
  have hts := hq.2.2.2.2.1
  have hl : lv_has ls 2 [(0, .long a0)] := hl
  refine lv_lload_n hx hb d_Long_bitCount_0 rfl (lv_at hl 0 rfl) ?_
  refine lv_lload_n hx hb d_Long_bitCount_1 rfl (lv_at hl 0 rfl) ?_
  refine lv_iconst (v := (1 : Int32)) hx hb d_Long_bitCount_2 (by decide) ?_
  refine lv_lushr (v := (ush_ a0 (1 : Int32))) hx hb d_Long_bitCount_3 rfl ?_
  refine lv_ldc2 (v := (6148914691236517205 : Int64)) hx hb hq.2.2.2.1 (hts _ wd_22) d_Long_bitCount_4 ?_
  refine lv_land hx hb d_Long_bitCount_7 ?_
  refine lv_lsub hx hb d_Long_bitCount_8 ?_
  refine lv_lstore_n (lv' := [(0, .long (a0 - ((ush_ a0 (1 : Int32)) &&& (6148914691236517205 : Int64))))]) hx hb d_Long_bitCount_9 rfl hl (by decide) rfl (fun ls hl => ?_)
  refine lv_lload_n hx hb d_Long_bitCount_10 rfl (lv_at hl 0 rfl) ?_
  refine lv_ldc2 (v := (3689348814741910323 : Int64)) hx hb hq.2.2.2.1 (hts _ wd_23) d_Long_bitCount_11 ?_
  refine lv_land hx hb d_Long_bitCount_14 ?_
  refine lv_lload_n hx hb d_Long_bitCount_15 rfl (lv_at hl 0 rfl) ?_
  refine lv_iconst (v := (2 : Int32)) hx hb d_Long_bitCount_16 (by decide) ?_
  refine lv_lushr (v := (ush_ (a0 - ((ush_ a0 (1 : Int32)) &&& (6148914691236517205 : Int64))) (2 : Int32))) hx hb d_Long_bitCount_17 rfl ?_
  refine lv_ldc2 (v := (3689348814741910323 : Int64)) hx hb hq.2.2.2.1 (hts _ wd_23) d_Long_bitCount_18 ?_
  refine lv_land hx hb d_Long_bitCount_21 ?_
  refine lv_ladd hx hb d_Long_bitCount_22 ?_
  refine lv_lstore_n (lv' := [(0, .long (((a0 - ((ush_ a0 (1 : Int32)) &&& (6148914691236517205 : Int64))) &&& (3689348814741910323 : Int64)) + ((ush_ (a0 - ((ush_ a0 (1 : Int32)) &&& (6148914691236517205 : Int64))) (2 : Int32)) &&& (3689348814741910323 : Int64))))]) hx hb d_Long_bitCount_23 rfl hl (by decide) rfl (fun ls hl => ?_)
  refine lv_lload_n hx hb d_Long_bitCount_24 rfl (lv_at hl 0 rfl) ?_
  refine lv_lload_n hx hb d_Long_bitCount_25 rfl (lv_at hl 0 rfl) ?_
  refine lv_iconst (v := (4 : Int32)) hx hb d_Long_bitCount_26 (by decide) ?_
  refine lv_lushr (v := (ush_ (((a0 - ((ush_ a0 (1 : Int32)) &&& (6148914691236517205 : Int64))) &&& (3689348814741910323 : Int64)) + ((ush_ (a0 - ((ush_ a0 (1 : Int32)) &&& (6148914691236517205 : Int64))) (2 : Int32)) &&& (3689348814741910323 : Int64))) (4 : Int32))) hx hb d_Long_bitCount_27 rfl ?_
  refine lv_ladd hx hb d_Long_bitCount_28 ?_
  refine lv_ldc2 (v := (1085102592571150095 : Int64)) hx hb hq.2.2.2.1 (hts _ wd_24) d_Long_bitCount_29 ?_
  refine lv_land hx hb d_Long_bitCount_32 ?_
  refine lv_lstore_n (lv' := [(0, .long (((((a0 - ((ush_ a0 (1 : Int32)) &&& (6148914691236517205 : Int64))) &&& (3689348814741910323 : Int64)) + ((ush_ (a0 - ((ush_ a0 (1 : Int32)) &&& (6148914691236517205 : Int64))) (2 : Int32)) &&& (3689348814741910323 : Int64))) + (ush_ (((a0 - ((ush_ a0 (1 : Int32)) &&& (6148914691236517205 : Int64))) &&& (3689348814741910323 : Int64)) + ((ush_ (a0 - ((ush_ a0 (1 : Int32)) &&& (6148914691236517205 : Int64))) (2 : Int32)) &&& (3689348814741910323 : Int64))) (4 : Int32))) &&& (1085102592571150095 : Int64)))]) hx hb d_Long_bitCount_33 rfl hl (by decide) rfl (fun ls hl => ?_)
  refine lv_lload_n hx hb d_Long_bitCount_34 rfl (lv_at hl 0 rfl) ?_
  refine lv_lload_n hx hb d_Long_bitCount_35 rfl (lv_at hl 0 rfl) ?_
  refine lv_bipush (v := (8 : Int32)) hx hb d_Long_bitCount_36 (by decide) ?_
  refine lv_lushr (v := (ush_ (((((a0 - ((ush_ a0 (1 : Int32)) &&& (6148914691236517205 : Int64))) &&& (3689348814741910323 : Int64)) + ((ush_ (a0 - ((ush_ a0 (1 : Int32)) &&& (6148914691236517205 : Int64))) (2 : Int32)) &&& (3689348814741910323 : Int64))) + (ush_ (((a0 - ((ush_ a0 (1 : Int32)) &&& (6148914691236517205 : Int64))) &&& (3689348814741910323 : Int64)) + ((ush_ (a0 - ((ush_ a0 (1 : Int32)) &&& (6148914691236517205 : Int64))) (2 : Int32)) &&& (3689348814741910323 : Int64))) (4 : Int32))) &&& (1085102592571150095 : Int64)) (8 : Int32))) hx hb d_Long_bitCount_38 rfl ?_
  refine lv_ladd hx hb d_Long_bitCount_39 ?_
  refine lv_lstore_n (lv' := [(0, .long ((((((a0 - ((ush_ a0 (1 : Int32)) &&& (6148914691236517205 : Int64))) &&& (3689348814741910323 : Int64)) + ((ush_ (a0 - ((ush_ a0 (1 : Int32)) &&& (6148914691236517205 : Int64))) (2 : Int32)) &&& (3689348814741910323 : Int64))) + (ush_ (((a0 - ((ush_ a0 (1 : Int32)) &&& (6148914691236517205 : Int64))) &&& (3689348814741910323 : Int64)) + ((ush_ (a0 - ((ush_ a0 (1 : Int32)) &&& (6148914691236517205 : Int64))) (2 : Int32)) &&& (3689348814741910323 : Int64))) (4 : Int32))) &&& (1085102592571150095 : Int64)) + (ush_ (((((a0 - ((ush_ a0 (1 : Int32)) &&& (6148914691236517205 : Int64))) &&& (3689348814741910323 : Int64)) + ((ush_ (a0 - ((ush_ a0 (1 : Int32)) &&& (6148914691236517205 : Int64))) (2 : Int32)) &&& (3689348814741910323 : Int64))) + (ush_ (((a0 - ((ush_ a0 (1 : Int32)) &&& (6148914691236517205 : Int64))) &&& (3689348814741910323 : Int64)) + ((ush_ (a0 - ((ush_ a0 (1 : Int32)) &&& (6148914691236517205 : Int64))) (2 : Int32)) &&& (3689348814741910323 : Int64))) (4 : Int32))) &&& (1085102592571150095 : Int64)) (8 : Int32))))]) hx hb d_Long_bitCount_40 rfl hl (by decide) rfl (fun ls hl => ?_)
  refine lv_lload_n hx hb d_Long_bitCount_41 rfl (lv_at hl 0 rfl) ?_
  refine lv_lload_n hx hb d_Long_bitCount_42 rfl (lv_at hl 0 rfl) ?_
  refine lv_bipush (v := (16 : Int32)) hx hb d_Long_bitCount_43 (by decide) ?_
  refine lv_lushr (v := (ush_ ((((((a0 - ((ush_ a0 (1 : Int32)) &&& (6148914691236517205 : Int64))) &&& (3689348814741910323 : Int64)) + ((ush_ (a0 - ((ush_ a0 (1 : Int32)) &&& (6148914691236517205 : Int64))) (2 : Int32)) &&& (3689348814741910323 : Int64))) + (ush_ (((a0 - ((ush_ a0 (1 : Int32)) &&& (6148914691236517205 : Int64))) &&& (3689348814741910323 : Int64)) + ((ush_ (a0 - ((ush_ a0 (1 : Int32)) &&& (6148914691236517205 : Int64))) (2 : Int32)) &&& (3689348814741910323 : Int64))) (4 : Int32))) &&& (1085102592571150095 : Int64)) + (ush_ (((((a0 - ((ush_ a0 (1 : Int32)) &&& (6148914691236517205 : Int64))) &&& (3689348814741910323 : Int64)) + ((ush_ (a0 - ((ush_ a0 (1 : Int32)) &&& (6148914691236517205 : Int64))) (2 : Int32)) &&& (3689348814741910323 : Int64))) + (ush_ (((a0 - ((ush_ a0 (1 : Int32)) &&& (6148914691236517205 : Int64))) &&& (3689348814741910323 : Int64)) + ((ush_ (a0 - ((ush_ a0 (1 : Int32)) &&& (6148914691236517205 : Int64))) (2 : Int32)) &&& (3689348814741910323 : Int64))) (4 : Int32))) &&& (1085102592571150095 : Int64)) (8 : Int32))) (16 : Int32))) hx hb d_Long_bitCount_45 rfl ?_
  refine lv_ladd hx hb d_Long_bitCount_46 ?_
  refine lv_lstore_n (lv' := [(0, .long (((((((a0 - ((ush_ a0 (1 : Int32)) &&& (6148914691236517205 : Int64))) &&& (3689348814741910323 : Int64)) + ((ush_ (a0 - ((ush_ a0 (1 : Int32)) &&& (6148914691236517205 : Int64))) (2 : Int32)) &&& (3689348814741910323 : Int64))) + (ush_ (((a0 - ((ush_ a0 (1 : Int32)) &&& (6148914691236517205 : Int64))) &&& (3689348814741910323 : Int64)) + ((ush_ (a0 - ((ush_ a0 (1 : Int32)) &&& (6148914691236517205 : Int64))) (2 : Int32)) &&& (3689348814741910323 : Int64))) (4 : Int32))) &&& (1085102592571150095 : Int64)) + (ush_ (((((a0 - ((ush_ a0 (1 : Int32)) &&& (6148914691236517205 : Int64))) &&& (3689348814741910323 : Int64)) + ((ush_ (a0 - ((ush_ a0 (1 : Int32)) &&& (6148914691236517205 : Int64))) (2 : Int32)) &&& (3689348814741910323 : Int64))) + (ush_ (((a0 - ((ush_ a0 (1 : Int32)) &&& (6148914691236517205 : Int64))) &&& (3689348814741910323 : Int64)) + ((ush_ (a0 - ((ush_ a0 (1 : Int32)) &&& (6148914691236517205 : Int64))) (2 : Int32)) &&& (3689348814741910323 : Int64))) (4 : Int32))) &&& (1085102592571150095 : Int64)) (8 : Int32))) + (ush_ ((((((a0 - ((ush_ a0 (1 : Int32)) &&& (6148914691236517205 : Int64))) &&& (3689348814741910323 : Int64)) + ((ush_ (a0 - ((ush_ a0 (1 : Int32)) &&& (6148914691236517205 : Int64))) (2 : Int32)) &&& (3689348814741910323 : Int64))) + (ush_ (((a0 - ((ush_ a0 (1 : Int32)) &&& (6148914691236517205 : Int64))) &&& (3689348814741910323 : Int64)) + ((ush_ (a0 - ((ush_ a0 (1 : Int32)) &&& (6148914691236517205 : Int64))) (2 : Int32)) &&& (3689348814741910323 : Int64))) (4 : Int32))) &&& (1085102592571150095 : Int64)) + (ush_ (((((a0 - ((ush_ a0 (1 : Int32)) &&& (6148914691236517205 : Int64))) &&& (3689348814741910323 : Int64)) + ((ush_ (a0 - ((ush_ a0 (1 : Int32)) &&& (6148914691236517205 : Int64))) (2 : Int32)) &&& (3689348814741910323 : Int64))) + (ush_ (((a0 - ((ush_ a0 (1 : Int32)) &&& (6148914691236517205 : Int64))) &&& (3689348814741910323 : Int64)) + ((ush_ (a0 - ((ush_ a0 (1 : Int32)) &&& (6148914691236517205 : Int64))) (2 : Int32)) &&& (3689348814741910323 : Int64))) (4 : Int32))) &&& (1085102592571150095 : Int64)) (8 : Int32))) (16 : Int32))))]) hx hb d_Long_bitCount_47 rfl hl (by decide) rfl (fun ls hl => ?_)
  refine lv_lload_n hx hb d_Long_bitCount_48 rfl (lv_at hl 0 rfl) ?_
  refine lv_lload_n hx hb d_Long_bitCount_49 rfl (lv_at hl 0 rfl) ?_
  refine lv_bipush (v := (32 : Int32)) hx hb d_Long_bitCount_50 (by decide) ?_
  refine lv_lushr (v := (ush_ (((((((a0 - ((ush_ a0 (1 : Int32)) &&& (6148914691236517205 : Int64))) &&& (3689348814741910323 : Int64)) + ((ush_ (a0 - ((ush_ a0 (1 : Int32)) &&& (6148914691236517205 : Int64))) (2 : Int32)) &&& (3689348814741910323 : Int64))) + (ush_ (((a0 - ((ush_ a0 (1 : Int32)) &&& (6148914691236517205 : Int64))) &&& (3689348814741910323 : Int64)) + ((ush_ (a0 - ((ush_ a0 (1 : Int32)) &&& (6148914691236517205 : Int64))) (2 : Int32)) &&& (3689348814741910323 : Int64))) (4 : Int32))) &&& (1085102592571150095 : Int64)) + (ush_ (((((a0 - ((ush_ a0 (1 : Int32)) &&& (6148914691236517205 : Int64))) &&& (3689348814741910323 : Int64)) + ((ush_ (a0 - ((ush_ a0 (1 : Int32)) &&& (6148914691236517205 : Int64))) (2 : Int32)) &&& (3689348814741910323 : Int64))) + (ush_ (((a0 - ((ush_ a0 (1 : Int32)) &&& (6148914691236517205 : Int64))) &&& (3689348814741910323 : Int64)) + ((ush_ (a0 - ((ush_ a0 (1 : Int32)) &&& (6148914691236517205 : Int64))) (2 : Int32)) &&& (3689348814741910323 : Int64))) (4 : Int32))) &&& (1085102592571150095 : Int64)) (8 : Int32))) + (ush_ ((((((a0 - ((ush_ a0 (1 : Int32)) &&& (6148914691236517205 : Int64))) &&& (3689348814741910323 : Int64)) + ((ush_ (a0 - ((ush_ a0 (1 : Int32)) &&& (6148914691236517205 : Int64))) (2 : Int32)) &&& (3689348814741910323 : Int64))) + (ush_ (((a0 - ((ush_ a0 (1 : Int32)) &&& (6148914691236517205 : Int64))) &&& (3689348814741910323 : Int64)) + ((ush_ (a0 - ((ush_ a0 (1 : Int32)) &&& (6148914691236517205 : Int64))) (2 : Int32)) &&& (3689348814741910323 : Int64))) (4 : Int32))) &&& (1085102592571150095 : Int64)) + (ush_ (((((a0 - ((ush_ a0 (1 : Int32)) &&& (6148914691236517205 : Int64))) &&& (3689348814741910323 : Int64)) + ((ush_ (a0 - ((ush_ a0 (1 : Int32)) &&& (6148914691236517205 : Int64))) (2 : Int32)) &&& (3689348814741910323 : Int64))) + (ush_ (((a0 - ((ush_ a0 (1 : Int32)) &&& (6148914691236517205 : Int64))) &&& (3689348814741910323 : Int64)) + ((ush_ (a0 - ((ush_ a0 (1 : Int32)) &&& (6148914691236517205 : Int64))) (2 : Int32)) &&& (3689348814741910323 : Int64))) (4 : Int32))) &&& (1085102592571150095 : Int64)) (8 : Int32))) (16 : Int32))) (32 : Int32))) hx hb d_Long_bitCount_52 rfl ?_
  refine lv_ladd hx hb d_Long_bitCount_53 ?_
  refine lv_lstore_n (lv' := [(0, .long ((((((((a0 - ((ush_ a0 (1 : Int32)) &&& (6148914691236517205 : Int64))) &&& (3689348814741910323 : Int64)) + ((ush_ (a0 - ((ush_ a0 (1 : Int32)) &&& (6148914691236517205 : Int64))) (2 : Int32)) &&& (3689348814741910323 : Int64))) + (ush_ (((a0 - ((ush_ a0 (1 : Int32)) &&& (6148914691236517205 : Int64))) &&& (3689348814741910323 : Int64)) + ((ush_ (a0 - ((ush_ a0 (1 : Int32)) &&& (6148914691236517205 : Int64))) (2 : Int32)) &&& (3689348814741910323 : Int64))) (4 : Int32))) &&& (1085102592571150095 : Int64)) + (ush_ (((((a0 - ((ush_ a0 (1 : Int32)) &&& (6148914691236517205 : Int64))) &&& (3689348814741910323 : Int64)) + ((ush_ (a0 - ((ush_ a0 (1 : Int32)) &&& (6148914691236517205 : Int64))) (2 : Int32)) &&& (3689348814741910323 : Int64))) + (ush_ (((a0 - ((ush_ a0 (1 : Int32)) &&& (6148914691236517205 : Int64))) &&& (3689348814741910323 : Int64)) + ((ush_ (a0 - ((ush_ a0 (1 : Int32)) &&& (6148914691236517205 : Int64))) (2 : Int32)) &&& (3689348814741910323 : Int64))) (4 : Int32))) &&& (1085102592571150095 : Int64)) (8 : Int32))) + (ush_ ((((((a0 - ((ush_ a0 (1 : Int32)) &&& (6148914691236517205 : Int64))) &&& (3689348814741910323 : Int64)) + ((ush_ (a0 - ((ush_ a0 (1 : Int32)) &&& (6148914691236517205 : Int64))) (2 : Int32)) &&& (3689348814741910323 : Int64))) + (ush_ (((a0 - ((ush_ a0 (1 : Int32)) &&& (6148914691236517205 : Int64))) &&& (3689348814741910323 : Int64)) + ((ush_ (a0 - ((ush_ a0 (1 : Int32)) &&& (6148914691236517205 : Int64))) (2 : Int32)) &&& (3689348814741910323 : Int64))) (4 : Int32))) &&& (1085102592571150095 : Int64)) + (ush_ (((((a0 - ((ush_ a0 (1 : Int32)) &&& (6148914691236517205 : Int64))) &&& (3689348814741910323 : Int64)) + ((ush_ (a0 - ((ush_ a0 (1 : Int32)) &&& (6148914691236517205 : Int64))) (2 : Int32)) &&& (3689348814741910323 : Int64))) + (ush_ (((a0 - ((ush_ a0 (1 : Int32)) &&& (6148914691236517205 : Int64))) &&& (3689348814741910323 : Int64)) + ((ush_ (a0 - ((ush_ a0 (1 : Int32)) &&& (6148914691236517205 : Int64))) (2 : Int32)) &&& (3689348814741910323 : Int64))) (4 : Int32))) &&& (1085102592571150095 : Int64)) (8 : Int32))) (16 : Int32))) + (ush_ (((((((a0 - ((ush_ a0 (1 : Int32)) &&& (6148914691236517205 : Int64))) &&& (3689348814741910323 : Int64)) + ((ush_ (a0 - ((ush_ a0 (1 : Int32)) &&& (6148914691236517205 : Int64))) (2 : Int32)) &&& (3689348814741910323 : Int64))) + (ush_ (((a0 - ((ush_ a0 (1 : Int32)) &&& (6148914691236517205 : Int64))) &&& (3689348814741910323 : Int64)) + ((ush_ (a0 - ((ush_ a0 (1 : Int32)) &&& (6148914691236517205 : Int64))) (2 : Int32)) &&& (3689348814741910323 : Int64))) (4 : Int32))) &&& (1085102592571150095 : Int64)) + (ush_ (((((a0 - ((ush_ a0 (1 : Int32)) &&& (6148914691236517205 : Int64))) &&& (3689348814741910323 : Int64)) + ((ush_ (a0 - ((ush_ a0 (1 : Int32)) &&& (6148914691236517205 : Int64))) (2 : Int32)) &&& (3689348814741910323 : Int64))) + (ush_ (((a0 - ((ush_ a0 (1 : Int32)) &&& (6148914691236517205 : Int64))) &&& (3689348814741910323 : Int64)) + ((ush_ (a0 - ((ush_ a0 (1 : Int32)) &&& (6148914691236517205 : Int64))) (2 : Int32)) &&& (3689348814741910323 : Int64))) (4 : Int32))) &&& (1085102592571150095 : Int64)) (8 : Int32))) + (ush_ ((((((a0 - ((ush_ a0 (1 : Int32)) &&& (6148914691236517205 : Int64))) &&& (3689348814741910323 : Int64)) + ((ush_ (a0 - ((ush_ a0 (1 : Int32)) &&& (6148914691236517205 : Int64))) (2 : Int32)) &&& (3689348814741910323 : Int64))) + (ush_ (((a0 - ((ush_ a0 (1 : Int32)) &&& (6148914691236517205 : Int64))) &&& (3689348814741910323 : Int64)) + ((ush_ (a0 - ((ush_ a0 (1 : Int32)) &&& (6148914691236517205 : Int64))) (2 : Int32)) &&& (3689348814741910323 : Int64))) (4 : Int32))) &&& (1085102592571150095 : Int64)) + (ush_ (((((a0 - ((ush_ a0 (1 : Int32)) &&& (6148914691236517205 : Int64))) &&& (3689348814741910323 : Int64)) + ((ush_ (a0 - ((ush_ a0 (1 : Int32)) &&& (6148914691236517205 : Int64))) (2 : Int32)) &&& (3689348814741910323 : Int64))) + (ush_ (((a0 - ((ush_ a0 (1 : Int32)) &&& (6148914691236517205 : Int64))) &&& (3689348814741910323 : Int64)) + ((ush_ (a0 - ((ush_ a0 (1 : Int32)) &&& (6148914691236517205 : Int64))) (2 : Int32)) &&& (3689348814741910323 : Int64))) (4 : Int32))) &&& (1085102592571150095 : Int64)) (8 : Int32))) (16 : Int32))) (32 : Int32))))]) hx hb d_Long_bitCount_54 rfl hl (by decide) rfl (fun ls hl => ?_)
  refine lv_lload_n hx hb d_Long_bitCount_55 rfl (lv_at hl 0 rfl) ?_
  refine lv_l2i (v := (Int64.toInt32 ((((((((a0 - ((ush_ a0 (1 : Int32)) &&& (6148914691236517205 : Int64))) &&& (3689348814741910323 : Int64)) + ((ush_ (a0 - ((ush_ a0 (1 : Int32)) &&& (6148914691236517205 : Int64))) (2 : Int32)) &&& (3689348814741910323 : Int64))) + (ush_ (((a0 - ((ush_ a0 (1 : Int32)) &&& (6148914691236517205 : Int64))) &&& (3689348814741910323 : Int64)) + ((ush_ (a0 - ((ush_ a0 (1 : Int32)) &&& (6148914691236517205 : Int64))) (2 : Int32)) &&& (3689348814741910323 : Int64))) (4 : Int32))) &&& (1085102592571150095 : Int64)) + (ush_ (((((a0 - ((ush_ a0 (1 : Int32)) &&& (6148914691236517205 : Int64))) &&& (3689348814741910323 : Int64)) + ((ush_ (a0 - ((ush_ a0 (1 : Int32)) &&& (6148914691236517205 : Int64))) (2 : Int32)) &&& (3689348814741910323 : Int64))) + (ush_ (((a0 - ((ush_ a0 (1 : Int32)) &&& (6148914691236517205 : Int64))) &&& (3689348814741910323 : Int64)) + ((ush_ (a0 - ((ush_ a0 (1 : Int32)) &&& (6148914691236517205 : Int64))) (2 : Int32)) &&& (3689348814741910323 : Int64))) (4 : Int32))) &&& (1085102592571150095 : Int64)) (8 : Int32))) + (ush_ ((((((a0 - ((ush_ a0 (1 : Int32)) &&& (6148914691236517205 : Int64))) &&& (3689348814741910323 : Int64)) + ((ush_ (a0 - ((ush_ a0 (1 : Int32)) &&& (6148914691236517205 : Int64))) (2 : Int32)) &&& (3689348814741910323 : Int64))) + (ush_ (((a0 - ((ush_ a0 (1 : Int32)) &&& (6148914691236517205 : Int64))) &&& (3689348814741910323 : Int64)) + ((ush_ (a0 - ((ush_ a0 (1 : Int32)) &&& (6148914691236517205 : Int64))) (2 : Int32)) &&& (3689348814741910323 : Int64))) (4 : Int32))) &&& (1085102592571150095 : Int64)) + (ush_ (((((a0 - ((ush_ a0 (1 : Int32)) &&& (6148914691236517205 : Int64))) &&& (3689348814741910323 : Int64)) + ((ush_ (a0 - ((ush_ a0 (1 : Int32)) &&& (6148914691236517205 : Int64))) (2 : Int32)) &&& (3689348814741910323 : Int64))) + (ush_ (((a0 - ((ush_ a0 (1 : Int32)) &&& (6148914691236517205 : Int64))) &&& (3689348814741910323 : Int64)) + ((ush_ (a0 - ((ush_ a0 (1 : Int32)) &&& (6148914691236517205 : Int64))) (2 : Int32)) &&& (3689348814741910323 : Int64))) (4 : Int32))) &&& (1085102592571150095 : Int64)) (8 : Int32))) (16 : Int32))) + (ush_ (((((((a0 - ((ush_ a0 (1 : Int32)) &&& (6148914691236517205 : Int64))) &&& (3689348814741910323 : Int64)) + ((ush_ (a0 - ((ush_ a0 (1 : Int32)) &&& (6148914691236517205 : Int64))) (2 : Int32)) &&& (3689348814741910323 : Int64))) + (ush_ (((a0 - ((ush_ a0 (1 : Int32)) &&& (6148914691236517205 : Int64))) &&& (3689348814741910323 : Int64)) + ((ush_ (a0 - ((ush_ a0 (1 : Int32)) &&& (6148914691236517205 : Int64))) (2 : Int32)) &&& (3689348814741910323 : Int64))) (4 : Int32))) &&& (1085102592571150095 : Int64)) + (ush_ (((((a0 - ((ush_ a0 (1 : Int32)) &&& (6148914691236517205 : Int64))) &&& (3689348814741910323 : Int64)) + ((ush_ (a0 - ((ush_ a0 (1 : Int32)) &&& (6148914691236517205 : Int64))) (2 : Int32)) &&& (3689348814741910323 : Int64))) + (ush_ (((a0 - ((ush_ a0 (1 : Int32)) &&& (6148914691236517205 : Int64))) &&& (3689348814741910323 : Int64)) + ((ush_ (a0 - ((ush_ a0 (1 : Int32)) &&& (6148914691236517205 : Int64))) (2 : Int32)) &&& (3689348814741910323 : Int64))) (4 : Int32))) &&& (1085102592571150095 : Int64)) (8 : Int32))) + (ush_ ((((((a0 - ((ush_ a0 (1 : Int32)) &&& (6148914691236517205 : Int64))) &&& (3689348814741910323 : Int64)) + ((ush_ (a0 - ((ush_ a0 (1 : Int32)) &&& (6148914691236517205 : Int64))) (2 : Int32)) &&& (3689348814741910323 : Int64))) + (ush_ (((a0 - ((ush_ a0 (1 : Int32)) &&& (6148914691236517205 : Int64))) &&& (3689348814741910323 : Int64)) + ((ush_ (a0 - ((ush_ a0 (1 : Int32)) &&& (6148914691236517205 : Int64))) (2 : Int32)) &&& (3689348814741910323 : Int64))) (4 : Int32))) &&& (1085102592571150095 : Int64)) + (ush_ (((((a0 - ((ush_ a0 (1 : Int32)) &&& (6148914691236517205 : Int64))) &&& (3689348814741910323 : Int64)) + ((ush_ (a0 - ((ush_ a0 (1 : Int32)) &&& (6148914691236517205 : Int64))) (2 : Int32)) &&& (3689348814741910323 : Int64))) + (ush_ (((a0 - ((ush_ a0 (1 : Int32)) &&& (6148914691236517205 : Int64))) &&& (3689348814741910323 : Int64)) + ((ush_ (a0 - ((ush_ a0 (1 : Int32)) &&& (6148914691236517205 : Int64))) (2 : Int32)) &&& (3689348814741910323 : Int64))) (4 : Int32))) &&& (1085102592571150095 : Int64)) (8 : Int32))) (16 : Int32))) (32 : Int32))))) hx hb d_Long_bitCount_56 rfl ?_
  refine lv_bipush (v := (127 : Int32)) hx hb d_Long_bitCount_57 (by decide) ?_
  refine lv_iand hx hb d_Long_bitCount_59 ?_
  exact ri_ hx hb hr hk (by rw [q_Long_bitCount]) d_Long_bitCount_60
def q_Integer_rotateLeft (a0 : Int32) (a1 : Int32) : Int32 :=
  ((a0 <<< (a1 &&& 31)) ||| (iush_ a0 (-a1)))
theorem kB_Integer_rotateLeft : SB y_Integer_rotateLeft b_Integer_rotateLeft 2 (some .int) 2 := ⟨wd_27, wd_28, wd_3, by decide +kernel⟩
set_option maxHeartbeats 4000000 in
set_option maxRecDepth 100000 in
theorem c_Integer_rotateLeft (l : Launch) (A : Nat → Prop) (ad : Nat → Nat) (a0 : Int32) (a1 : Int32) : Met l y_Integer_rotateLeft (Cond.code y_Integer_rotateLeft b_Integer_rotateLeft 2 (some .int) :: BT) ({ frames := 0, cells := 0, slots := 0, locals := 0 }) (PC A ad [.int a0, .int a1]) (vp_Si (fun r => r = q_Integer_rotateLeft a0 a1)) 0 0 (fun _ => False) := by
  refine pm_ (by decide +kernel) (Nat.le_of_ble_eq_true rfl) ?_
  intro p e s m below meth c hq hr hk ls hl
  have hx := hq.1
  have hb := hq.2.1
  have hts := hq.2.2.2.2.1
  have hl : lv_has ls 2 [(0, .int a0), (1, .int a1)] := hl
  refine lv_iload_n hx hb d_Integer_rotateLeft_0 rfl (lv_at hl 0 rfl) ?_
  refine lv_iload_n hx hb d_Integer_rotateLeft_1 rfl (lv_at hl 1 rfl) ?_
  refine lv_ishl hx hb d_Integer_rotateLeft_2 ?_
  refine lv_iload_n hx hb d_Integer_rotateLeft_3 rfl (lv_at hl 0 rfl) ?_
  refine lv_iload_n hx hb d_Integer_rotateLeft_4 rfl (lv_at hl 1 rfl) ?_
  refine lv_ineg hx hb d_Integer_rotateLeft_5 ?_
  refine lv_iushr (v := (iush_ a0 (-a1))) hx hb d_Integer_rotateLeft_6 rfl ?_
  refine lv_ior hx hb d_Integer_rotateLeft_7 ?_
  exact ri_ hx hb hr hk (by rw [q_Integer_rotateLeft]) d_Integer_rotateLeft_8
def q_Long_rotateLeft (a0 : Int64) (a1 : Int32) : Int64 :=
  ((shl_ a0 a1) ||| (ush_ a0 (-a1)))
theorem kB_Long_rotateLeft : SB y_Long_rotateLeft b_Long_rotateLeft 3 (some .long) 2 := ⟨wd_29, wd_30, wd_7, by decide +kernel⟩
set_option maxHeartbeats 4000000 in
set_option maxRecDepth 100000 in
theorem c_Long_rotateLeft (l : Launch) (A : Nat → Prop) (ad : Nat → Nat) (a0 : Int64) (a1 : Int32) : Met l y_Long_rotateLeft (Cond.code y_Long_rotateLeft b_Long_rotateLeft 3 (some .long) :: BT) ({ frames := 0, cells := 0, slots := 0, locals := 0 }) (PC A ad [.long a0, .int a1]) (vp_Sl (fun r => r = q_Long_rotateLeft a0 a1)) 0 0 (fun _ => False) := by
  refine pm_ (by decide +kernel) (Nat.le_of_ble_eq_true rfl) ?_
  intro p e s m below meth c hq hr hk ls hl
  have hx := hq.1
  have hb := hq.2.1
  have hts := hq.2.2.2.2.1
  have hl : lv_has ls 3 [(0, .long a0), (2, .int a1)] := hl
  refine lv_lload_n hx hb d_Long_rotateLeft_0 rfl (lv_at hl 0 rfl) ?_
  refine lv_iload_n hx hb d_Long_rotateLeft_1 rfl (lv_at hl 1 rfl) ?_
  refine lv_lshl (v := (shl_ a0 a1)) hx hb d_Long_rotateLeft_2 rfl ?_
  refine lv_lload_n hx hb d_Long_rotateLeft_3 rfl (lv_at hl 0 rfl) ?_
  refine lv_iload_n hx hb d_Long_rotateLeft_4 rfl (lv_at hl 1 rfl) ?_
  refine lv_ineg hx hb d_Long_rotateLeft_5 ?_
  refine lv_lushr (v := (ush_ a0 (-a1))) hx hb d_Long_rotateLeft_6 rfl ?_
  refine lv_lor hx hb d_Long_rotateLeft_7 ?_
  exact rl_ hx hb hr hk (by rw [q_Long_rotateLeft]) d_Long_rotateLeft_8
def q_Math_multiplyHigh (a0 : Int64) (a1 : Int64) : Int64 :=
  ((((shr_ a0 (32 : Int32)) * (shr_ a1 (32 : Int32))) + (shr_ (((shr_ a0 (32 : Int32)) * (a1 &&& (4294967295 : Int64))) + (ush_ ((a0 &&& (4294967295 : Int64)) * (a1 &&& (4294967295 : Int64))) (32 : Int32))) (32 : Int32))) + (shr_ (((((shr_ a0 (32 : Int32)) * (a1 &&& (4294967295 : Int64))) + (ush_ ((a0 &&& (4294967295 : Int64)) * (a1 &&& (4294967295 : Int64))) (32 : Int32))) &&& (4294967295 : Int64)) + ((a0 &&& (4294967295 : Int64)) * (shr_ a1 (32 : Int32)))) (32 : Int32)))
theorem kB_Math_multiplyHigh : SB y_Math_multiplyHigh b_Math_multiplyHigh 20 (some .long) 2 := ⟨wd_32, wd_33, wd_10, by decide +kernel⟩
set_option maxHeartbeats 4000000 in
set_option maxRecDepth 100000 in
theorem c_Math_multiplyHigh (l : Launch) (A : Nat → Prop) (ad : Nat → Nat) (a0 : Int64) (a1 : Int64) : Met l y_Math_multiplyHigh (Cond.code y_Math_multiplyHigh b_Math_multiplyHigh 20 (some .long) :: BT) ({ frames := 0, cells := 0, slots := 0, locals := 0 }) (PC A ad [.long a0, .long a1]) (vp_Sl (fun r => r = q_Math_multiplyHigh a0 a1)) 0 0 (fun _ => False) := by
  refine pm_ (by decide +kernel) (Nat.le_of_ble_eq_true rfl) ?_
  intro p e s m below meth c hq hr hk ls hl
  have hx := hq.1
  have hb := hq.2.1
  have hts := hq.2.2.2.2.1
  have hl : lv_has ls 20 [(0, .long a0), (2, .long a1)] := hl
  refine lv_lload_n hx hb d_Math_multiplyHigh_0 rfl (lv_at hl 0 rfl) ?_
  refine lv_bipush (v := (32 : Int32)) hx hb d_Math_multiplyHigh_1 (by decide) ?_
  refine lv_lshr (v := (shr_ a0 (32 : Int32))) hx hb d_Math_multiplyHigh_3 rfl ?_
  refine lv_lstore (lv' := [(4, .long (shr_ a0 (32 : Int32))), (0, .long a0), (2, .long a1)]) hx hb d_Math_multiplyHigh_4 hl (by decide) rfl (fun ls hl => ?_)
  refine lv_lload_n hx hb d_Math_multiplyHigh_6 rfl (lv_at hl 1 rfl) ?_
  refine lv_ldc2 (v := (4294967295 : Int64)) hx hb hq.2.2.2.1 (hts _ wd_31) d_Math_multiplyHigh_7 ?_
  refine lv_land hx hb d_Math_multiplyHigh_10 ?_
  refine lv_lstore (lv' := [(6, .long (a0 &&& (4294967295 : Int64))), (4, .long (shr_ a0 (32 : Int32))), (0, .long a0), (2, .long a1)]) hx hb d_Math_multiplyHigh_11 hl (by decide) rfl (fun ls hl => ?_)
  refine lv_lload_n hx hb d_Math_multiplyHigh_13 rfl (lv_at hl 3 rfl) ?_
  refine lv_bipush (v := (32 : Int32)) hx hb d_Math_multiplyHigh_14 (by decide) ?_
  refine lv_lshr (v := (shr_ a1 (32 : Int32))) hx hb d_Math_multiplyHigh_16 rfl ?_
  refine lv_lstore (lv' := [(8, .long (shr_ a1 (32 : Int32))), (6, .long (a0 &&& (4294967295 : Int64))), (4, .long (shr_ a0 (32 : Int32))), (0, .long a0), (2, .long a1)]) hx hb d_Math_multiplyHigh_17 hl (by decide) rfl (fun ls hl => ?_)
  refine lv_lload_n hx hb d_Math_multiplyHigh_19 rfl (lv_at hl 4 rfl) ?_
  refine lv_ldc2 (v := (4294967295 : Int64)) hx hb hq.2.2.2.1 (hts _ wd_31) d_Math_multiplyHigh_20 ?_
  refine lv_land hx hb d_Math_multiplyHigh_23 ?_
  refine lv_lstore (lv' := [(10, .long (a1 &&& (4294967295 : Int64))), (8, .long (shr_ a1 (32 : Int32))), (6, .long (a0 &&& (4294967295 : Int64))), (4, .long (shr_ a0 (32 : Int32))), (0, .long a0), (2, .long a1)]) hx hb d_Math_multiplyHigh_24 hl (by decide) rfl (fun ls hl => ?_)
  refine lv_lload hx hb d_Math_multiplyHigh_26 (lv_at hl 2 rfl) ?_
  refine lv_lload hx hb d_Math_multiplyHigh_28 (lv_at hl 0 rfl) ?_
  refine lv_lmul hx hb d_Math_multiplyHigh_30 ?_
  refine lv_lstore (lv' := [(12, .long ((a0 &&& (4294967295 : Int64)) * (a1 &&& (4294967295 : Int64)))), (10, .long (a1 &&& (4294967295 : Int64))), (8, .long (shr_ a1 (32 : Int32))), (6, .long (a0 &&& (4294967295 : Int64))), (4, .long (shr_ a0 (32 : Int32))), (0, .long a0), (2, .long a1)]) hx hb d_Math_multiplyHigh_31 hl (by decide) rfl (fun ls hl => ?_)
  refine lv_lload hx hb d_Math_multiplyHigh_33 (lv_at hl 4 rfl) ?_
  refine lv_lload hx hb d_Math_multiplyHigh_35 (lv_at hl 1 rfl) ?_
  refine lv_lmul hx hb d_Math_multiplyHigh_37 ?_
  refine lv_lload hx hb d_Math_multiplyHigh_38 (lv_at hl 0 rfl) ?_
  refine lv_bipush (v := (32 : Int32)) hx hb d_Math_multiplyHigh_40 (by decide) ?_
  refine lv_lushr (v := (ush_ ((a0 &&& (4294967295 : Int64)) * (a1 &&& (4294967295 : Int64))) (32 : Int32))) hx hb d_Math_multiplyHigh_42 rfl ?_
  refine lv_ladd hx hb d_Math_multiplyHigh_43 ?_
  refine lv_lstore (lv' := [(14, .long (((shr_ a0 (32 : Int32)) * (a1 &&& (4294967295 : Int64))) + (ush_ ((a0 &&& (4294967295 : Int64)) * (a1 &&& (4294967295 : Int64))) (32 : Int32)))), (12, .long ((a0 &&& (4294967295 : Int64)) * (a1 &&& (4294967295 : Int64)))), (10, .long (a1 &&& (4294967295 : Int64))), (8, .long (shr_ a1 (32 : Int32))), (6, .long (a0 &&& (4294967295 : Int64))), (4, .long (shr_ a0 (32 : Int32))), (0, .long a0), (2, .long a1)]) hx hb d_Math_multiplyHigh_44 hl (by decide) rfl (fun ls hl => ?_)
  refine lv_lload hx hb d_Math_multiplyHigh_46 (lv_at hl 0 rfl) ?_
  refine lv_ldc2 (v := (4294967295 : Int64)) hx hb hq.2.2.2.1 (hts _ wd_31) d_Math_multiplyHigh_48 ?_
  refine lv_land hx hb d_Math_multiplyHigh_51 ?_
  refine lv_lstore (lv' := [(16, .long ((((shr_ a0 (32 : Int32)) * (a1 &&& (4294967295 : Int64))) + (ush_ ((a0 &&& (4294967295 : Int64)) * (a1 &&& (4294967295 : Int64))) (32 : Int32))) &&& (4294967295 : Int64))), (14, .long (((shr_ a0 (32 : Int32)) * (a1 &&& (4294967295 : Int64))) + (ush_ ((a0 &&& (4294967295 : Int64)) * (a1 &&& (4294967295 : Int64))) (32 : Int32)))), (12, .long ((a0 &&& (4294967295 : Int64)) * (a1 &&& (4294967295 : Int64)))), (10, .long (a1 &&& (4294967295 : Int64))), (8, .long (shr_ a1 (32 : Int32))), (6, .long (a0 &&& (4294967295 : Int64))), (4, .long (shr_ a0 (32 : Int32))), (0, .long a0), (2, .long a1)]) hx hb d_Math_multiplyHigh_52 hl (by decide) rfl (fun ls hl => ?_)
  refine lv_lload hx hb d_Math_multiplyHigh_54 (lv_at hl 1 rfl) ?_
  refine lv_bipush (v := (32 : Int32)) hx hb d_Math_multiplyHigh_56 (by decide) ?_
  refine lv_lshr (v := (shr_ (((shr_ a0 (32 : Int32)) * (a1 &&& (4294967295 : Int64))) + (ush_ ((a0 &&& (4294967295 : Int64)) * (a1 &&& (4294967295 : Int64))) (32 : Int32))) (32 : Int32))) hx hb d_Math_multiplyHigh_58 rfl ?_
  refine lv_lstore (lv' := [(18, .long (shr_ (((shr_ a0 (32 : Int32)) * (a1 &&& (4294967295 : Int64))) + (ush_ ((a0 &&& (4294967295 : Int64)) * (a1 &&& (4294967295 : Int64))) (32 : Int32))) (32 : Int32))), (16, .long ((((shr_ a0 (32 : Int32)) * (a1 &&& (4294967295 : Int64))) + (ush_ ((a0 &&& (4294967295 : Int64)) * (a1 &&& (4294967295 : Int64))) (32 : Int32))) &&& (4294967295 : Int64))), (14, .long (((shr_ a0 (32 : Int32)) * (a1 &&& (4294967295 : Int64))) + (ush_ ((a0 &&& (4294967295 : Int64)) * (a1 &&& (4294967295 : Int64))) (32 : Int32)))), (12, .long ((a0 &&& (4294967295 : Int64)) * (a1 &&& (4294967295 : Int64)))), (10, .long (a1 &&& (4294967295 : Int64))), (8, .long (shr_ a1 (32 : Int32))), (6, .long (a0 &&& (4294967295 : Int64))), (4, .long (shr_ a0 (32 : Int32))), (0, .long a0), (2, .long a1)]) hx hb d_Math_multiplyHigh_59 hl (by decide) rfl (fun ls hl => ?_)
  refine lv_lload hx hb d_Math_multiplyHigh_61 (lv_at hl 1 rfl) ?_
  refine lv_lload hx hb d_Math_multiplyHigh_63 (lv_at hl 6 rfl) ?_
  refine lv_lload hx hb d_Math_multiplyHigh_65 (lv_at hl 5 rfl) ?_
  refine lv_lmul hx hb d_Math_multiplyHigh_67 ?_
  refine lv_ladd hx hb d_Math_multiplyHigh_68 ?_
  refine lv_lstore (lv' := [(16, .long (((((shr_ a0 (32 : Int32)) * (a1 &&& (4294967295 : Int64))) + (ush_ ((a0 &&& (4294967295 : Int64)) * (a1 &&& (4294967295 : Int64))) (32 : Int32))) &&& (4294967295 : Int64)) + ((a0 &&& (4294967295 : Int64)) * (shr_ a1 (32 : Int32))))), (18, .long (shr_ (((shr_ a0 (32 : Int32)) * (a1 &&& (4294967295 : Int64))) + (ush_ ((a0 &&& (4294967295 : Int64)) * (a1 &&& (4294967295 : Int64))) (32 : Int32))) (32 : Int32))), (14, .long (((shr_ a0 (32 : Int32)) * (a1 &&& (4294967295 : Int64))) + (ush_ ((a0 &&& (4294967295 : Int64)) * (a1 &&& (4294967295 : Int64))) (32 : Int32)))), (12, .long ((a0 &&& (4294967295 : Int64)) * (a1 &&& (4294967295 : Int64)))), (10, .long (a1 &&& (4294967295 : Int64))), (8, .long (shr_ a1 (32 : Int32))), (6, .long (a0 &&& (4294967295 : Int64))), (4, .long (shr_ a0 (32 : Int32))), (0, .long a0), (2, .long a1)]) hx hb d_Math_multiplyHigh_69 hl (by decide) rfl (fun ls hl => ?_)
  refine lv_lload hx hb d_Math_multiplyHigh_71 (lv_at hl 7 rfl) ?_
  refine lv_lload hx hb d_Math_multiplyHigh_73 (lv_at hl 5 rfl) ?_
  refine lv_lmul hx hb d_Math_multiplyHigh_75 ?_
  refine lv_lload hx hb d_Math_multiplyHigh_76 (lv_at hl 1 rfl) ?_
  refine lv_ladd hx hb d_Math_multiplyHigh_78 ?_
  refine lv_lload hx hb d_Math_multiplyHigh_79 (lv_at hl 0 rfl) ?_
  refine lv_bipush (v := (32 : Int32)) hx hb d_Math_multiplyHigh_81 (by decide) ?_
  refine lv_lshr (v := (shr_ (((((shr_ a0 (32 : Int32)) * (a1 &&& (4294967295 : Int64))) + (ush_ ((a0 &&& (4294967295 : Int64)) * (a1 &&& (4294967295 : Int64))) (32 : Int32))) &&& (4294967295 : Int64)) + ((a0 &&& (4294967295 : Int64)) * (shr_ a1 (32 : Int32)))) (32 : Int32))) hx hb d_Math_multiplyHigh_83 rfl ?_
  refine lv_ladd hx hb d_Math_multiplyHigh_84 ?_
  exact rl_ hx hb hr hk (by rw [q_Math_multiplyHigh]) d_Math_multiplyHigh_85
def q_Bits_lowest (a0 : Int32) (a1 : Int64) : Int64 :=
  if a0 = (32 : Int32) then
    (a1 &&& (4294967295 : Int64))
  else
    a1
theorem kB_Bits_lowest : SB y_Bits_lowest b_Bits_lowest 3 (some .long) 2 := ⟨wd_35, wd_36, wd_37, by decide +kernel⟩
set_option maxHeartbeats 4000000 in
set_option maxRecDepth 100000 in
theorem c_Bits_lowest (l : Launch) (A : Nat → Prop) (ad : Nat → Nat) (a0 : Int32) (a1 : Int64) : Met l y_Bits_lowest (Cond.code y_Bits_lowest b_Bits_lowest 3 (some .long) :: BT) ({ frames := 0, cells := 0, slots := 0, locals := 0 }) (PC A ad [.int a0, .long a1]) (vp_Sl (fun r => r = q_Bits_lowest a0 a1)) 0 0 (fun _ => False) := by
  refine pm_ (by decide +kernel) (Nat.le_of_ble_eq_true rfl) ?_
  intro p e s m below meth c hq hr hk ls hl
  have hx := hq.1
  have hb := hq.2.1
  have hts := hq.2.2.2.2.1
  have hl : lv_has ls 3 [(0, .int a0), (1, .long a1)] := hl
  refine lv_iload_n hx hb d_Bits_lowest_0 rfl (lv_at hl 0 rfl) ?_
  refine lv_bipush (v := (32 : Int32)) hx hb d_Bits_lowest_1 (by decide) ?_
  refine lv_icmp_ne (tgt := 14) hx hb d_Bits_lowest_3 (by decide) (fun c_1 => ?_) (fun c_1 => ?_)
  · refine lv_lload_n hx hb d_Bits_lowest_14 rfl (lv_at hl 1 rfl) ?_
    exact rl_ hx hb hr hk (by rw [q_Bits_lowest, if_neg c_1]) d_Bits_lowest_15
  · refine lv_lload_n hx hb d_Bits_lowest_6 rfl (lv_at hl 1 rfl) ?_
    refine lv_ldc2 (v := (4294967295 : Int64)) hx hb hq.2.2.2.1 (hts _ wd_34) d_Bits_lowest_7 ?_
    refine lv_land hx hb d_Bits_lowest_10 ?_
    refine lv_goto (tgt := 15) hx hb d_Bits_lowest_11 (by decide) ?_
    exact rl_ hx hb hr hk (by rw [q_Bits_lowest, if_pos c_1]) d_Bits_lowest_15
def q_Bits_signed (a0 : Int32) (a1 : Int64) : Int64 :=
  if a0 = (32 : Int32) then
    (Int32.toInt64 (Int64.toInt32 a1))
  else
    a1
theorem kB_Bits_signed : SB y_Bits_signed b_Bits_signed 3 (some .long) 2 := ⟨wd_38, wd_39, wd_37, by decide +kernel⟩
set_option maxHeartbeats 4000000 in
set_option maxRecDepth 100000 in
theorem c_Bits_signed (l : Launch) (A : Nat → Prop) (ad : Nat → Nat) (a0 : Int32) (a1 : Int64) : Met l y_Bits_signed (Cond.code y_Bits_signed b_Bits_signed 3 (some .long) :: BT) ({ frames := 0, cells := 0, slots := 0, locals := 0 }) (PC A ad [.int a0, .long a1]) (vp_Sl (fun r => r = q_Bits_signed a0 a1)) 0 0 (fun _ => False) := by
  refine pm_ (by decide +kernel) (Nat.le_of_ble_eq_true rfl) ?_
  intro p e s m below meth c hq hr hk ls hl
  have hx := hq.1
  have hb := hq.2.1
  have hts := hq.2.2.2.2.1
  have hl : lv_has ls 3 [(0, .int a0), (1, .long a1)] := hl
  refine lv_iload_n hx hb d_Bits_signed_0 rfl (lv_at hl 0 rfl) ?_
  refine lv_bipush (v := (32 : Int32)) hx hb d_Bits_signed_1 (by decide) ?_
  refine lv_icmp_ne (tgt := 12) hx hb d_Bits_signed_3 (by decide) (fun c_1 => ?_) (fun c_1 => ?_)
  · refine lv_lload_n hx hb d_Bits_signed_12 rfl (lv_at hl 1 rfl) ?_
    exact rl_ hx hb hr hk (by rw [q_Bits_signed, if_neg c_1]) d_Bits_signed_13
  · refine lv_lload_n hx hb d_Bits_signed_6 rfl (lv_at hl 1 rfl) ?_
    refine lv_l2i (v := (Int64.toInt32 a1)) hx hb d_Bits_signed_7 rfl ?_
    refine lv_i2l (v := (Int32.toInt64 (Int64.toInt32 a1))) hx hb d_Bits_signed_8 rfl ?_
    refine lv_goto (tgt := 13) hx hb d_Bits_signed_9 (by decide) ?_
    exact rl_ hx hb hr hk (by rw [q_Bits_signed, if_pos c_1]) d_Bits_signed_13
def q_Bits_marked (a0 : Int64) (a1 : Int64) : Int64 :=
  if a1 = (0 : Int64) then
    a0
  else
    (a0 ||| (1 : Int64))
theorem kB_Bits_marked : SB y_Bits_marked b_Bits_marked 4 (some .long) 2 := ⟨wd_40, wd_41, wd_37, by decide +kernel⟩
set_option maxHeartbeats 4000000 in
set_option maxRecDepth 100000 in
theorem c_Bits_marked (l : Launch) (A : Nat → Prop) (ad : Nat → Nat) (a0 : Int64) (a1 : Int64) : Met l y_Bits_marked (Cond.code y_Bits_marked b_Bits_marked 4 (some .long) :: BT) ({ frames := 0, cells := 0, slots := 0, locals := 0 }) (PC A ad [.long a0, .long a1]) (vp_Sl (fun r => r = q_Bits_marked a0 a1)) 0 0 (fun _ => False) := by
  refine pm_ (by decide +kernel) (Nat.le_of_ble_eq_true rfl) ?_
  intro p e s m below meth c hq hr hk ls hl
  have hx := hq.1
  have hb := hq.2.1
  have hts := hq.2.2.2.2.1
  have hl : lv_has ls 4 [(0, .long a0), (2, .long a1)] := hl
  refine lv_lload_n hx hb d_Bits_marked_0 rfl (lv_at hl 1 rfl) ?_
  refine lv_lconst (v := (0 : Int64)) hx hb d_Bits_marked_1 (by decide) ?_
  refine W.lcmp hx hb d_Bits_marked_2 ?_
  refine lv_if_ne (tgt := 10) hx hb d_Bits_marked_3 (by decide) (fun c_1 => ?_) (fun c_1 => ?_)
  · rw [lg_cmp_eq] at c_1
    refine lv_lload_n hx hb d_Bits_marked_10 rfl (lv_at hl 0 rfl) ?_
    refine lv_lconst (v := (1 : Int64)) hx hb d_Bits_marked_11 (by decide) ?_
    refine lv_lor hx hb d_Bits_marked_12 ?_
    exact rl_ hx hb hr hk (by rw [q_Bits_marked, if_neg c_1]) d_Bits_marked_13
  · rw [lg_cmp_eq] at c_1
    refine lv_lload_n hx hb d_Bits_marked_6 rfl (lv_at hl 0 rfl) ?_
    refine lv_goto (tgt := 13) hx hb d_Bits_marked_7 (by decide) ?_
    exact rl_ hx hb hr hk (by rw [q_Bits_marked, if_pos c_1]) d_Bits_marked_13
def q_Bits_movedDown (a0 : Int64) (a1 : Int32) : Int64 :=
  if 0 < a1 then
    if a1 < (64 : Int32) then
      (q_Bits_marked (ush_ a0 a1) (shl_ a0 ((64 : Int32) - a1)))
    else
      (q_Bits_marked (0 : Int64) a0)
  else
    a0
theorem kB_Bits_movedDown : SB y_Bits_movedDown b_Bits_movedDown 3 (some .long) 2 := ⟨wd_43, wd_44, wd_37, by decide +kernel⟩
set_option maxHeartbeats 4000000 in
set_option maxRecDepth 100000 in
theorem c_Bits_movedDown (l : Launch) (A : Nat → Prop) (ad : Nat → Nat) (a0 : Int64) (a1 : Int32) : Met l y_Bits_movedDown (Cond.code y_Bits_movedDown b_Bits_movedDown 3 (some .long) :: BT) ({ frames := 1, cells := 0, slots := 0, locals := 23 }) (PC A ad [.long a0, .int a1]) (vp_Sl (fun r => r = q_Bits_movedDown a0 a1)) 0 0 (fun _ => False) := by
  refine pm_ (by decide +kernel) (Nat.le_of_ble_eq_true rfl) ?_
  intro p e s m below meth c hq hr hk ls hl
  have hx := hq.1
  have hb := hq.2.1
  have hts := hq.2.2.2.2.1
  have hl : lv_has ls 3 [(0, .long a0), (2, .int a1)] := hl
  refine lv_iload_n hx hb d_Bits_movedDown_0 rfl (lv_at hl 1 rfl) ?_
  refine lv_if_gt (tgt := 6) hx hb d_Bits_movedDown_1 (by decide) (fun c_1 => ?_) (fun c_1 => ?_)
  · refine lv_iload_n hx hb d_Bits_movedDown_6 rfl (lv_at hl 1 rfl) ?_
    refine lv_bipush (v := (64 : Int32)) hx hb d_Bits_movedDown_7 (by decide) ?_
    refine lv_icmp_lt (tgt := 18) hx hb d_Bits_movedDown_9 (by decide) (fun c_2 => ?_) (fun c_2 => ?_)
    · refine lv_lload_n hx hb d_Bits_movedDown_18 rfl (lv_at hl 0 rfl) ?_
      refine lv_iload_n hx hb d_Bits_movedDown_19 rfl (lv_at hl 1 rfl) ?_
      refine lv_lushr (v := (ush_ a0 a1)) hx hb d_Bits_movedDown_20 rfl ?_
      refine lv_lload_n hx hb d_Bits_movedDown_21 rfl (lv_at hl 0 rfl) ?_
      refine lv_bipush (v := (64 : Int32)) hx hb d_Bits_movedDown_22 (by decide) ?_
      refine lv_iload_n hx hb d_Bits_movedDown_24 rfl (lv_at hl 1 rfl) ?_
      refine lv_isub hx hb d_Bits_movedDown_25 ?_
      refine lv_lshl (v := (shl_ a0 ((64 : Int32) - a1))) hx hb d_Bits_movedDown_26 rfl ?_
      refine sl_ (As := [.long (ush_ a0 a1), .long (shl_ a0 ((64 : Int32) - a1))]) (rest := []) hq (c_Bits_marked l A ad (ush_ a0 a1) (shl_ a0 ((64 : Int32) - a1))) kB_Bits_marked wd_42 ⟨rfl, rfl, Nat.le_of_ble_eq_true rfl, Nat.le_of_ble_eq_true rfl⟩ rfl hl.1 rfl (Nat.le_of_ble_eq_true rfl) d_Bits_movedDown_27 ⟨Nat.zero_le _, Nat.zero_le _⟩ ?_
      exact rl_ hx hb hr hk (by rw [q_Bits_movedDown, if_pos c_1, if_pos c_2]) d_Bits_movedDown_30
    · refine lv_lconst (v := (0 : Int64)) hx hb d_Bits_movedDown_12 (by decide) ?_
      refine lv_lload_n hx hb d_Bits_movedDown_13 rfl (lv_at hl 0 rfl) ?_
      refine sl_ (As := [.long (0 : Int64), .long a0]) (rest := []) hq (c_Bits_marked l A ad (0 : Int64) a0) kB_Bits_marked wd_42 ⟨rfl, rfl, Nat.le_of_ble_eq_true rfl, Nat.le_of_ble_eq_true rfl⟩ rfl hl.1 rfl (Nat.le_of_ble_eq_true rfl) d_Bits_movedDown_14 ⟨Nat.zero_le _, Nat.zero_le _⟩ ?_
      exact rl_ hx hb hr hk (by rw [q_Bits_movedDown, if_pos c_1, if_neg c_2]) d_Bits_movedDown_17
  · refine lv_lload_n hx hb d_Bits_movedDown_4 rfl (lv_at hl 0 rfl) ?_
    exact rl_ hx hb hr hk (by rw [q_Bits_movedDown, if_neg c_1]) d_Bits_movedDown_5
end
section
def q_Form_sign (i : Nat) (a0 : Int64) : Int64 :=
  (a0 &&& (fm_s i))
theorem kB_Form_sign : VB y_Form_sign b_Form_sign 3 (some .long) 1 := ⟨wd_46, wd_47, wd_48, wd_49, by decide +kernel⟩
set_option maxHeartbeats 4000000 in
set_option maxRecDepth 100000 in
theorem c_Form_sign (l : Launch) (A : Nat → Prop) (ad : Nat → Nat) (i : Nat) (hi : i < 2) (a0 : Int64) : Met l y_Form_sign (Cond.code y_Form_sign b_Form_sign 3 (some .long) :: BT) ({ frames := 0, cells := 0, slots := 0, locals := 0 }) (PC A ad [.ref (ad i), .long a0]) (vp_Sl (fun r => r = q_Form_sign i a0)) 0 0 (fun _ => False) := by
  refine pm_ (by decide +kernel) (Nat.le_of_ble_eq_true rfl) ?_
  intro p e s m below meth c hq hr hk ls hl
  have hx := hq.1
  have hb := hq.2.1
  have hts := hq.2.2.2.2.1
  have hl : lv_has ls 3 [(0, .ref (ad i)), (1, .long a0)] := hl
  refine lv_lload_n hx hb d_Form_sign_0 rfl (lv_at hl 1 rfl) ?_
  refine lv_aload_n hx hb d_Form_sign_1 rfl (lv_at hl 0 rfl) ?_
  refine gf_s hq hi wd_45 d_Form_sign_2 ?_
  refine lv_land hx hb d_Form_sign_5 ?_
  exact rl_ hx hb hr hk (by rw [q_Form_sign]) d_Form_sign_6
def q_Form_withoutSign (i : Nat) (a0 : Int64) : Int64 :=
  (a0 &&& ((fm_s i) - (1 : Int64)))
theorem kB_Form_withoutSign : VB y_Form_withoutSign b_Form_withoutSign 3 (some .long) 1 := ⟨wd_50, wd_51, wd_52, wd_49, by decide +kernel⟩
set_option maxHeartbeats 4000000 in
set_option maxRecDepth 100000 in
theorem c_Form_withoutSign (l : Launch) (A : Nat → Prop) (ad : Nat → Nat) (i : Nat) (hi : i < 2) (a0 : Int64) : Met l y_Form_withoutSign (Cond.code y_Form_withoutSign b_Form_withoutSign 3 (some .long) :: BT) ({ frames := 0, cells := 0, slots := 0, locals := 0 }) (PC A ad [.ref (ad i), .long a0]) (vp_Sl (fun r => r = q_Form_withoutSign i a0)) 0 0 (fun _ => False) := by
  refine pm_ (by decide +kernel) (Nat.le_of_ble_eq_true rfl) ?_
  intro p e s m below meth c hq hr hk ls hl
  have hx := hq.1
  have hb := hq.2.1
  have hts := hq.2.2.2.2.1
  have hl : lv_has ls 3 [(0, .ref (ad i)), (1, .long a0)] := hl
  refine lv_lload_n hx hb d_Form_withoutSign_0 rfl (lv_at hl 1 rfl) ?_
  refine lv_aload_n hx hb d_Form_withoutSign_1 rfl (lv_at hl 0 rfl) ?_
  refine gf_s hq hi wd_45 d_Form_withoutSign_2 ?_
  refine lv_lconst (v := (1 : Int64)) hx hb d_Form_withoutSign_5 (by decide) ?_
  refine lv_lsub hx hb d_Form_withoutSign_6 ?_
  refine lv_land hx hb d_Form_withoutSign_7 ?_
  exact rl_ hx hb hr hk (by rw [q_Form_withoutSign]) d_Form_withoutSign_8
def q_Form_isNoNumber (i : Nat) (a0 : Int64) : Int32 :=
  if (q_Form_withoutSign i a0) ≤ (fm_i i) then
    (0 : Int32)
  else
    (1 : Int32)
theorem kB_Form_isNoNumber : VB y_Form_isNoNumber b_Form_isNoNumber 3 (some .boolean) 1 := ⟨wd_55, wd_56, wd_57, wd_49, by decide +kernel⟩
set_option maxHeartbeats 4000000 in
set_option maxRecDepth 100000 in
theorem c_Form_isNoNumber (l : Launch) (A : Nat → Prop) (ad : Nat → Nat) (i : Nat) (hi : i < 2) (a0 : Int64) : Met l y_Form_isNoNumber (Cond.code y_Form_isNoNumber b_Form_isNoNumber 3 (some .boolean) :: BT) ({ frames := 1, cells := 0, slots := 0, locals := 22 }) (PC A ad [.ref (ad i), .long a0]) (vp_Si (fun r => r = q_Form_isNoNumber i a0)) 0 0 (fun _ => False) := by
  refine pm_ (by decide +kernel) (Nat.le_of_ble_eq_true rfl) ?_
  intro p e s m below meth c hq hr hk ls hl
  have hx := hq.1
  have hb := hq.2.1
  have hts := hq.2.2.2.2.1
  have hl : lv_has ls 3 [(0, .ref (ad i)), (1, .long a0)] := hl
  refine lv_aload_n hx hb d_Form_isNoNumber_0 rfl (lv_at hl 0 rfl) ?_
  refine lv_lload_n hx hb d_Form_isNoNumber_1 rfl (lv_at hl 1 rfl) ?_
  refine vl_ (As := [.long a0]) (rest := []) hq hi (c_Form_withoutSign l A ad i hi a0) kB_Form_withoutSign wd_53 ⟨rfl, rfl, Nat.le_of_ble_eq_true rfl, Nat.le_of_ble_eq_true rfl⟩ rfl hl.1 rfl (Nat.le_of_ble_eq_true rfl) d_Form_isNoNumber_2 ⟨Nat.zero_le _, Nat.zero_le _⟩ ?_
  refine lv_aload_n hx hb d_Form_isNoNumber_5 rfl (lv_at hl 0 rfl) ?_
  refine gf_i hq hi wd_54 d_Form_isNoNumber_6 ?_
  refine W.lcmp hx hb d_Form_isNoNumber_9 ?_
  refine lv_if_le (tgt := 17) hx hb d_Form_isNoNumber_10 (by decide) (fun c_1 => ?_) (fun c_1 => ?_)
  · rw [lg_cmp_le] at c_1
    refine lv_iconst (v := (0 : Int32)) hx hb d_Form_isNoNumber_17 (by decide) ?_
    exact rz_ hx hb hr hk (by decide) (by rw [q_Form_isNoNumber, if_pos c_1]) d_Form_isNoNumber_18
  · rw [lg_cmp_le] at c_1
    refine lv_iconst (v := (1 : Int32)) hx hb d_Form_isNoNumber_13 (by decide) ?_
    refine lv_goto (tgt := 18) hx hb d_Form_isNoNumber_14 (by decide) ?_
    exact rz_ hx hb hr hk (by decide) (by rw [q_Form_isNoNumber, if_neg c_1]) d_Form_isNoNumber_18
def q_Form_isInfinite (i : Nat) (a0 : Int64) : Int32 :=
  if (q_Form_withoutSign i a0) = (fm_i i) then
    (1 : Int32)
  else
    (0 : Int32)
theorem kB_Form_isInfinite : VB y_Form_isInfinite b_Form_isInfinite 3 (some .boolean) 1 := ⟨wd_58, wd_59, wd_60, wd_49, by decide +kernel⟩
set_option maxHeartbeats 4000000 in
set_option maxRecDepth 100000 in
theorem c_Form_isInfinite (l : Launch) (A : Nat → Prop) (ad : Nat → Nat) (i : Nat) (hi : i < 2) (a0 : Int64) : Met l y_Form_isInfinite (Cond.code y_Form_isInfinite b_Form_isInfinite 3 (some .boolean) :: BT) ({ frames := 1, cells := 0, slots := 0, locals := 22 }) (PC A ad [.ref (ad i), .long a0]) (vp_Si (fun r => r = q_Form_isInfinite i a0)) 0 0 (fun _ => False) := by
  refine pm_ (by decide +kernel) (Nat.le_of_ble_eq_true rfl) ?_
  intro p e s m below meth c hq hr hk ls hl
  have hx := hq.1
  have hb := hq.2.1
  have hts := hq.2.2.2.2.1
  have hl : lv_has ls 3 [(0, .ref (ad i)), (1, .long a0)] := hl
  refine lv_aload_n hx hb d_Form_isInfinite_0 rfl (lv_at hl 0 rfl) ?_
  refine lv_lload_n hx hb d_Form_isInfinite_1 rfl (lv_at hl 1 rfl) ?_
  refine vl_ (As := [.long a0]) (rest := []) hq hi (c_Form_withoutSign l A ad i hi a0) kB_Form_withoutSign wd_53 ⟨rfl, rfl, Nat.le_of_ble_eq_true rfl, Nat.le_of_ble_eq_true rfl⟩ rfl hl.1 rfl (Nat.le_of_ble_eq_true rfl) d_Form_isInfinite_2 ⟨Nat.zero_le _, Nat.zero_le _⟩ ?_
  refine lv_aload_n hx hb d_Form_isInfinite_5 rfl (lv_at hl 0 rfl) ?_
  refine gf_i hq hi wd_54 d_Form_isInfinite_6 ?_
  refine W.lcmp hx hb d_Form_isInfinite_9 ?_
  refine lv_if_ne (tgt := 17) hx hb d_Form_isInfinite_10 (by decide) (fun c_1 => ?_) (fun c_1 => ?_)
  · rw [lg_cmp_eq] at c_1
    refine lv_iconst (v := (0 : Int32)) hx hb d_Form_isInfinite_17 (by decide) ?_
    exact rz_ hx hb hr hk (by decide) (by rw [q_Form_isInfinite, if_neg c_1]) d_Form_isInfinite_18
  · rw [lg_cmp_eq] at c_1
    refine lv_iconst (v := (1 : Int32)) hx hb d_Form_isInfinite_13 (by decide) ?_
    refine lv_goto (tgt := 18) hx hb d_Form_isInfinite_14 (by decide) ?_
    exact rz_ hx hb hr hk (by decide) (by rw [q_Form_isInfinite, if_pos c_1]) d_Form_isInfinite_18
def q_Form_isZero (i : Nat) (a0 : Int64) : Int32 :=
  if (q_Form_withoutSign i a0) = (0 : Int64) then
    (1 : Int32)
  else
    (0 : Int32)
theorem kB_Form_isZero : VB y_Form_isZero b_Form_isZero 3 (some .boolean) 1 := ⟨wd_61, wd_62, wd_63, wd_49, by decide +kernel⟩
set_option maxHeartbeats 4000000 in
set_option maxRecDepth 100000 in
theorem c_Form_isZero (l : Launch) (A : Nat → Prop) (ad : Nat → Nat) (i : Nat) (hi : i < 2) (a0 : Int64) : Met l y_Form_isZero (Cond.code y_Form_isZero b_Form_isZero 3 (some .boolean) :: BT) ({ frames := 1, cells := 0, slots := 0, locals := 22 }) (PC A ad [.ref (ad i), .long a0]) (vp_Si (fun r => r = q_Form_isZero i a0)) 0 0 (fun _ => False) := by
  refine pm_ (by decide +kernel) (Nat.le_of_ble_eq_true rfl) ?_
  intro p e s m below meth c hq hr hk ls hl
  have hx := hq.1
  have hb := hq.2.1
  have hts := hq.2.2.2.2.1
  have hl : lv_has ls 3 [(0, .ref (ad i)), (1, .long a0)] := hl
  refine lv_aload_n hx hb d_Form_isZero_0 rfl (lv_at hl 0 rfl) ?_
  refine lv_lload_n hx hb d_Form_isZero_1 rfl (lv_at hl 1 rfl) ?_
  refine vl_ (As := [.long a0]) (rest := []) hq hi (c_Form_withoutSign l A ad i hi a0) kB_Form_withoutSign wd_53 ⟨rfl, rfl, Nat.le_of_ble_eq_true rfl, Nat.le_of_ble_eq_true rfl⟩ rfl hl.1 rfl (Nat.le_of_ble_eq_true rfl) d_Form_isZero_2 ⟨Nat.zero_le _, Nat.zero_le _⟩ ?_
  refine lv_lconst (v := (0 : Int64)) hx hb d_Form_isZero_5 (by decide) ?_
  refine W.lcmp hx hb d_Form_isZero_6 ?_
  refine lv_if_ne (tgt := 14) hx hb d_Form_isZero_7 (by decide) (fun c_1 => ?_) (fun c_1 => ?_)
  · rw [lg_cmp_eq] at c_1
    refine lv_iconst (v := (0 : Int32)) hx hb d_Form_isZero_14 (by decide) ?_
    exact rz_ hx hb hr hk (by decide) (by rw [q_Form_isZero, if_neg c_1]) d_Form_isZero_15
  · rw [lg_cmp_eq] at c_1
    refine lv_iconst (v := (1 : Int32)) hx hb d_Form_isZero_10 (by decide) ?_
    refine lv_goto (tgt := 15) hx hb d_Form_isZero_11 (by decide) ?_
    exact rz_ hx hb hr hk (by decide) (by rw [q_Form_isZero, if_pos c_1]) d_Form_isZero_15
def q_Form_exponent (i : Nat) (a0 : Int64) : Int32 :=
  (Int64.toInt32 (ush_ (a0 &&& ((fm_s i) - (1 : Int64))) (fm_f i)))
theorem kB_Form_exponent : VB y_Form_exponent b_Form_exponent 3 (some .int) 1 := ⟨wd_65, wd_66, wd_67, wd_49, by decide +kernel⟩
set_option maxHeartbeats 4000000 in
set_option maxRecDepth 100000 in
theorem c_Form_exponent (l : Launch) (A : Nat → Prop) (ad : Nat → Nat) (i : Nat) (hi : i < 2) (a0 : Int64) : Met l y_Form_exponent (Cond.code y_Form_exponent b_Form_exponent 3 (some .int) :: BT) ({ frames := 0, cells := 0, slots := 0, locals := 0 }) (PC A ad [.ref (ad i), .long a0]) (vp_Si (fun r => r = q_Form_exponent i a0)) 0 0 (fun _ => False) := by
  refine pm_ (by decide +kernel) (Nat.le_of_ble_eq_true rfl) ?_
  intro p e s m below meth c hq hr hk ls hl
  have hx := hq.1
  have hb := hq.2.1
  have hts := hq.2.2.2.2.1
  have hl : lv_has ls 3 [(0, .ref (ad i)), (1, .long a0)] := hl
  refine lv_lload_n hx hb d_Form_exponent_0 rfl (lv_at hl 1 rfl) ?_
  refine lv_aload_n hx hb d_Form_exponent_1 rfl (lv_at hl 0 rfl) ?_
  refine gf_s hq hi wd_45 d_Form_exponent_2 ?_
  refine lv_lconst (v := (1 : Int64)) hx hb d_Form_exponent_5 (by decide) ?_
  refine lv_lsub hx hb d_Form_exponent_6 ?_
  refine lv_land hx hb d_Form_exponent_7 ?_
  refine lv_aload_n hx hb d_Form_exponent_8 rfl (lv_at hl 0 rfl) ?_
  refine gf_f hq hi wd_64 d_Form_exponent_9 ?_
  refine lv_lushr (v := (ush_ (a0 &&& ((fm_s i) - (1 : Int64))) (fm_f i))) hx hb d_Form_exponent_12 rfl ?_
  refine lv_l2i (v := (Int64.toInt32 (ush_ (a0 &&& ((fm_s i) - (1 : Int64))) (fm_f i)))) hx hb d_Form_exponent_13 rfl ?_
  exact ri_ hx hb hr hk (by rw [q_Form_exponent]) d_Form_exponent_14
def q_Form_significand (i : Nat) (a0 : Int64) : Int64 :=
  if (q_Form_exponent i a0) = 0 then
    (a0 &&& ((shl_ (1 : Int64) (fm_f i)) - (1 : Int64)))
  else
    ((a0 &&& ((shl_ (1 : Int64) (fm_f i)) - (1 : Int64))) ||| (shl_ (1 : Int64) (fm_f i)))
theorem kB_Form_significand : VB y_Form_significand b_Form_significand 7 (some .long) 1 := ⟨wd_69, wd_70, wd_71, wd_49, by decide +kernel⟩
set_option maxHeartbeats 4000000 in
set_option maxRecDepth 100000 in
theorem c_Form_significand (l : Launch) (A : Nat → Prop) (ad : Nat → Nat) (i : Nat) (hi : i < 2) (a0 : Int64) : Met l y_Form_significand (Cond.code y_Form_significand b_Form_significand 7 (some .long) :: BT) ({ frames := 1, cells := 0, slots := 0, locals := 22 }) (PC A ad [.ref (ad i), .long a0]) (vp_Sl (fun r => r = q_Form_significand i a0)) 0 0 (fun _ => False) := by
  refine pm_ (by decide +kernel) (Nat.le_of_ble_eq_true rfl) ?_
  intro p e s m below meth c hq hr hk ls hl
  have hx := hq.1
  have hb := hq.2.1
  have hts := hq.2.2.2.2.1
  have hl : lv_has ls 7 [(0, .ref (ad i)), (1, .long a0)] := hl
  refine lv_lconst (v := (1 : Int64)) hx hb d_Form_significand_0 (by decide) ?_
  refine lv_aload_n hx hb d_Form_significand_1 rfl (lv_at hl 0 rfl) ?_
  refine gf_f hq hi wd_64 d_Form_significand_2 ?_
  refine lv_lshl (v := (shl_ (1 : Int64) (fm_f i))) hx hb d_Form_significand_5 rfl ?_
  refine lv_lstore_n (lv' := [(3, .long (shl_ (1 : Int64) (fm_f i))), (0, .ref (ad i)), (1, .long a0)]) hx hb d_Form_significand_6 rfl hl (by decide) rfl (fun ls hl => ?_)
  refine lv_lload_n hx hb d_Form_significand_7 rfl (lv_at hl 2 rfl) ?_
  refine lv_lload_n hx hb d_Form_significand_8 rfl (lv_at hl 0 rfl) ?_
  refine lv_lconst (v := (1 : Int64)) hx hb d_Form_significand_9 (by decide) ?_
  refine lv_lsub hx hb d_Form_significand_10 ?_
  refine lv_land hx hb d_Form_significand_11 ?_
  refine lv_lstore (lv' := [(5, .long (a0 &&& ((shl_ (1 : Int64) (fm_f i)) - (1 : Int64)))), (3, .long (shl_ (1 : Int64) (fm_f i))), (0, .ref (ad i)), (1, .long a0)]) hx hb d_Form_significand_12 hl (by decide) rfl (fun ls hl => ?_)
  refine lv_aload_n hx hb d_Form_significand_14 rfl (lv_at hl 2 rfl) ?_
  refine lv_lload_n hx hb d_Form_significand_15 rfl (lv_at hl 3 rfl) ?_
  refine vi_ (As := [.long a0]) (rest := []) hq hi (c_Form_exponent l A ad i hi a0) kB_Form_exponent wd_68 ⟨rfl, rfl, Nat.le_of_ble_eq_true rfl, Nat.le_of_ble_eq_true rfl⟩ rfl hl.1 rfl (Nat.le_of_ble_eq_true rfl) d_Form_significand_16 ⟨Nat.zero_le _, Nat.zero_le _⟩ ?_
  refine lv_if_ne (tgt := 27) hx hb d_Form_significand_19 (by decide) (fun c_1 => ?_) (fun c_1 => ?_)
  · refine lv_lload hx hb d_Form_significand_27 (lv_at hl 0 rfl) ?_
    refine lv_lload_n hx hb d_Form_significand_29 rfl (lv_at hl 1 rfl) ?_
    refine lv_lor hx hb d_Form_significand_30 ?_
    exact rl_ hx hb hr hk (by rw [q_Form_significand, if_neg c_1]) d_Form_significand_31
  · refine lv_lload hx hb d_Form_significand_22 (lv_at hl 0 rfl) ?_
    refine lv_goto (tgt := 31) hx hb d_Form_significand_24 (by decide) ?_
    exact rl_ hx hb hr hk (by rw [q_Form_significand, if_pos c_1]) d_Form_significand_31
def q_Form_scale (i : Nat) (a0 : Int64) : Int32 :=
  (((q_Math_max (q_Form_exponent i a0) (1 : Int32)) - (fm_b i)) - (fm_f i))
theorem kB_Form_scale : VB y_Form_scale b_Form_scale 3 (some .int) 1 := ⟨wd_74, wd_75, wd_76, wd_49, by decide +kernel⟩
set_option maxHeartbeats 4000000 in
set_option maxRecDepth 100000 in
theorem c_Form_scale (l : Launch) (A : Nat → Prop) (ad : Nat → Nat) (i : Nat) (hi : i < 2) (a0 : Int64) : Met l y_Form_scale (Cond.code y_Form_scale b_Form_scale 3 (some .int) :: BT) ({ frames := 1, cells := 0, slots := 0, locals := 22 }) (PC A ad [.ref (ad i), .long a0]) (vp_Si (fun r => r = q_Form_scale i a0)) 0 0 (fun _ => False) := by
  refine pm_ (by decide +kernel) (Nat.le_of_ble_eq_true rfl) ?_
  intro p e s m below meth c hq hr hk ls hl
  have hx := hq.1
  have hb := hq.2.1
  have hts := hq.2.2.2.2.1
  have hl : lv_has ls 3 [(0, .ref (ad i)), (1, .long a0)] := hl
  refine lv_aload_n hx hb d_Form_scale_0 rfl (lv_at hl 0 rfl) ?_
  refine lv_lload_n hx hb d_Form_scale_1 rfl (lv_at hl 1 rfl) ?_
  refine vi_ (As := [.long a0]) (rest := []) hq hi (c_Form_exponent l A ad i hi a0) kB_Form_exponent wd_68 ⟨rfl, rfl, Nat.le_of_ble_eq_true rfl, Nat.le_of_ble_eq_true rfl⟩ rfl hl.1 rfl (Nat.le_of_ble_eq_true rfl) d_Form_scale_2 ⟨Nat.zero_le _, Nat.zero_le _⟩ ?_
  refine lv_iconst (v := (1 : Int32)) hx hb d_Form_scale_5 (by decide) ?_
  refine si_ (As := [.int (q_Form_exponent i a0), .int (1 : Int32)]) (rest := []) hq (c_Math_max l A ad (q_Form_exponent i a0) (1 : Int32)) kB_Math_max wd_72 ⟨rfl, rfl, Nat.le_of_ble_eq_true rfl, Nat.le_of_ble_eq_true rfl⟩ rfl hl.1 rfl (Nat.le_of_ble_eq_true rfl) d_Form_scale_6 ⟨Nat.zero_le _, Nat.zero_le _⟩ ?_
  refine lv_aload_n hx hb d_Form_scale_9 rfl (lv_at hl 0 rfl) ?_
  refine gf_b hq hi wd_73 d_Form_scale_10 ?_
  refine lv_isub hx hb d_Form_scale_13 ?_
  refine lv_aload_n hx hb d_Form_scale_14 rfl (lv_at hl 0 rfl) ?_
  refine gf_f hq hi wd_64 d_Form_scale_15 ?_
  refine lv_isub hx hb d_Form_scale_18 ?_
  exact ri_ hx hb hr hk (by rw [q_Form_scale]) d_Form_scale_19
def q_Form_nearest (a0 : Int64) (a1 : Int64) : Int64 :=
  if a1 = (-9223372036854775808 : Int64) then
    (a0 + (a0 &&& (1 : Int64)))
  else
    if (0 : Int64) ≤ a1 then
      a0
    else
      (a0 + (1 : Int64))
theorem kB_Form_nearest : SB y_Form_nearest b_Form_nearest 4 (some .long) 2 := ⟨wd_78, wd_79, wd_49, by decide +kernel⟩
set_option maxHeartbeats 4000000 in
set_option maxRecDepth 100000 in
theorem c_Form_nearest (l : Launch) (A : Nat → Prop) (ad : Nat → Nat) (a0 : Int64) (a1 : Int64) : Met l y_Form_nearest (Cond.code y_Form_nearest b_Form_nearest 4 (some .long) :: BT) ({ frames := 0, cells := 0, slots := 0, locals := 0 }) (PC A ad [.long a0, .long a1]) (vp_Sl (fun r => r = q_Form_nearest a0 a1)) 0 0 (fun _ => False) := by
  refine pm_ (by decide +kernel) (Nat.le_of_ble_eq_true rfl) ?_
  intro p e s m below meth c hq hr hk ls hl
  have hx := hq.1
  have hb := hq.2.1
  have hts := hq.2.2.2.2.1
  have hl : lv_has ls 4 [(0, .long a0), (2, .long a1)] := hl
  refine lv_lload_n hx hb d_Form_nearest_0 rfl (lv_at hl 1 rfl) ?_
  refine lv_ldc2 (v := (-9223372036854775808 : Int64)) hx hb hq.2.2.2.1 (hts _ wd_77) d_Form_nearest_1 ?_
  refine W.lcmp hx hb d_Form_nearest_4 ?_
  refine lv_if_ne (tgt := 14) hx hb d_Form_nearest_5 (by decide) (fun c_1 => ?_) (fun c_1 => ?_)
  · rw [lg_cmp_eq] at c_1
    refine lv_lload_n hx hb d_Form_nearest_14 rfl (lv_at hl 1 rfl) ?_
    refine lv_lconst (v := (0 : Int64)) hx hb d_Form_nearest_15 (by decide) ?_
    refine W.lcmp hx hb d_Form_nearest_16 ?_
    refine lv_if_ge (tgt := 26) hx hb d_Form_nearest_17 (by decide) (fun c_2 => ?_) (fun c_2 => ?_)
    · rw [lg_cmp_ge] at c_2
      refine lv_lload_n hx hb d_Form_nearest_26 rfl (lv_at hl 0 rfl) ?_
      exact rl_ hx hb hr hk (by rw [q_Form_nearest, if_neg c_1, if_pos c_2]) d_Form_nearest_27
    · rw [lg_cmp_ge] at c_2
      refine lv_lload_n hx hb d_Form_nearest_20 rfl (lv_at hl 0 rfl) ?_
      refine lv_lconst (v := (1 : Int64)) hx hb d_Form_nearest_21 (by decide) ?_
      refine lv_ladd hx hb d_Form_nearest_22 ?_
      refine lv_goto (tgt := 27) hx hb d_Form_nearest_23 (by decide) ?_
      exact rl_ hx hb hr hk (by rw [q_Form_nearest, if_neg c_1, if_neg c_2]) d_Form_nearest_27
  · rw [lg_cmp_eq] at c_1
    refine lv_lload_n hx hb d_Form_nearest_8 rfl (lv_at hl 0 rfl) ?_
    refine lv_lload_n hx hb d_Form_nearest_9 rfl (lv_at hl 0 rfl) ?_
    refine lv_lconst (v := (1 : Int64)) hx hb d_Form_nearest_10 (by decide) ?_
    refine lv_land hx hb d_Form_nearest_11 ?_
    refine lv_ladd hx hb d_Form_nearest_12 ?_
    exact rl_ hx hb hr hk (by rw [q_Form_nearest, if_pos c_1]) d_Form_nearest_13
def q_Form_rounded (i : Nat) (a0 : Int64) (a1 : Int64) (a2 : Int32) : Int64 :=
  if (((a2 - (q_Long_numberOfLeadingZeros a1)) + (63 : Int32)) + (fm_b i)) ≤ ((2 : Int32) * (fm_b i)) then
    if (((63 : Int32) - (fm_f i)) + (q_Math_max ((1 : Int32) - (((a2 - (q_Long_numberOfLeadingZeros a1)) + (63 : Int32)) + (fm_b i))) (0 : Int32))) ≤ (64 : Int32) then
      if (((63 : Int32) - (fm_f i)) + (q_Math_max ((1 : Int32) - (((a2 - (q_Long_numberOfLeadingZeros a1)) + (63 : Int32)) + (fm_b i))) (0 : Int32))) = (64 : Int32) then
        (a0 ||| ((shl_ (Int32.toInt64 ((q_Math_max (((a2 - (q_Long_numberOfLeadingZeros a1)) + (63 : Int32)) + (fm_b i)) (1 : Int32)) - (1 : Int32))) (fm_f i)) + (q_Form_nearest (0 : Int64) (shl_ (shl_ a1 (q_Long_numberOfLeadingZeros a1)) ((64 : Int32) - (((63 : Int32) - (fm_f i)) + (q_Math_max ((1 : Int32) - (((a2 - (q_Long_numberOfLeadingZeros a1)) + (63 : Int32)) + (fm_b i))) (0 : Int32))))))))
      else
        (a0 ||| ((shl_ (Int32.toInt64 ((q_Math_max (((a2 - (q_Long_numberOfLeadingZeros a1)) + (63 : Int32)) + (fm_b i)) (1 : Int32)) - (1 : Int32))) (fm_f i)) + (q_Form_nearest (ush_ (shl_ a1 (q_Long_numberOfLeadingZeros a1)) (((63 : Int32) - (fm_f i)) + (q_Math_max ((1 : Int32) - (((a2 - (q_Long_numberOfLeadingZeros a1)) + (63 : Int32)) + (fm_b i))) (0 : Int32)))) (shl_ (shl_ a1 (q_Long_numberOfLeadingZeros a1)) ((64 : Int32) - (((63 : Int32) - (fm_f i)) + (q_Math_max ((1 : Int32) - (((a2 - (q_Long_numberOfLeadingZeros a1)) + (63 : Int32)) + (fm_b i))) (0 : Int32))))))))
    else
      a0
  else
    (a0 ||| (fm_i i))
theorem kB_Form_rounded : VB y_Form_rounded b_Form_rounded 16 (some .long) 3 := ⟨wd_82, wd_83, wd_84, wd_49, by decide +kernel⟩
set_option maxHeartbeats 4000000 in
set_option maxRecDepth 100000 in
theorem c_Form_rounded (l : Launch) (A : Nat → Prop) (ad : Nat → Nat) (i : Nat) (hi : i < 2) (a0 : Int64) (a1 : Int64) (a2 : Int32) : Met l y_Form_rounded (Cond.code y_Form_rounded b_Form_rounded 16 (some .long) :: BT) ({ frames := 2, cells := 0, slots := 0, locals := 43 }) (PC A ad [.ref (ad i), .long a0, .long a1, .int a2]) (vp_Sl (fun r => r = q_Form_rounded i a0 a1 a2)) 0 0 (fun _ => False) := by
  refine pm_ (by decide +kernel) (Nat.le_of_ble_eq_true rfl) ?_
  intro p e s m below meth c hq hr hk ls hl
  have hx := hq.1
  have hb := hq.2.1
  have hts := hq.2.2.2.2.1
  have hl : lv_has ls 16 [(0, .ref (ad i)), (1, .long a0), (3, .long a1), (5, .int a2)] := hl
  refine lv_lload_n hx hb d_Form_rounded_0 rfl (lv_at hl 2 rfl) ?_
  refine si_ (As := [.long a1]) (rest := []) hq (c_Long_numberOfLeadingZeros l A ad a1) kB_Long_numberOfLeadingZeros wd_80 ⟨rfl, rfl, Nat.le_of_ble_eq_true rfl, Nat.le_of_ble_eq_true rfl⟩ rfl hl.1 rfl (Nat.le_of_ble_eq_true rfl) d_Form_rounded_1 ⟨Nat.zero_le _, Nat.zero_le _⟩ ?_
  refine lv_istore (lv' := [(6, .int (q_Long_numberOfLeadingZeros a1)), (0, .ref (ad i)), (1, .long a0), (3, .long a1), (5, .int a2)]) hx hb d_Form_rounded_4 hl (by decide) rfl (fun ls hl => ?_)
  refine lv_lload_n hx hb d_Form_rounded_6 rfl (lv_at hl 3 rfl) ?_
  refine lv_iload hx hb d_Form_rounded_7 (lv_at hl 0 rfl) ?_
  refine lv_lshl (v := (shl_ a1 (q_Long_numberOfLeadingZeros a1))) hx hb d_Form_rounded_9 rfl ?_
  refine lv_lstore (lv' := [(7, .long (shl_ a1 (q_Long_numberOfLeadingZeros a1))), (6, .int (q_Long_numberOfLeadingZeros a1)), (0, .ref (ad i)), (1, .long a0), (3, .long a1), (5, .int a2)]) hx hb d_Form_rounded_10 hl (by decide) rfl (fun ls hl => ?_)
  refine lv_iload hx hb d_Form_rounded_12 (lv_at hl 5 rfl) ?_
  refine lv_iload hx hb d_Form_rounded_14 (lv_at hl 1 rfl) ?_
  refine lv_isub hx hb d_Form_rounded_16 ?_
  refine lv_bipush (v := (63 : Int32)) hx hb d_Form_rounded_17 (by decide) ?_
  refine lv_iadd hx hb d_Form_rounded_19 ?_
  refine lv_aload_n hx hb d_Form_rounded_20 rfl (lv_at hl 2 rfl) ?_
  refine gf_b hq hi wd_73 d_Form_rounded_21 ?_
  refine lv_iadd hx hb d_Form_rounded_24 ?_
  refine lv_istore (lv' := [(9, .int (((a2 - (q_Long_numberOfLeadingZeros a1)) + (63 : Int32)) + (fm_b i))), (7, .long (shl_ a1 (q_Long_numberOfLeadingZeros a1))), (6, .int (q_Long_numberOfLeadingZeros a1)), (0, .ref (ad i)), (1, .long a0), (3, .long a1), (5, .int a2)]) hx hb d_Form_rounded_25 hl (by decide) rfl (fun ls hl => ?_)
  refine lv_iload hx hb d_Form_rounded_27 (lv_at hl 0 rfl) ?_
  refine lv_iconst (v := (2 : Int32)) hx hb d_Form_rounded_29 (by decide) ?_
  refine lv_aload_n hx hb d_Form_rounded_30 rfl (lv_at hl 3 rfl) ?_
  refine gf_b hq hi wd_73 d_Form_rounded_31 ?_
  refine lv_imul hx hb d_Form_rounded_34 ?_
  refine lv_icmp_le (tgt := 45) hx hb d_Form_rounded_35 (by decide) (fun c_1 => ?_) (fun c_1 => ?_)
  · refine lv_iconst (v := (1 : Int32)) hx hb d_Form_rounded_45 (by decide) ?_
    refine lv_iload hx hb d_Form_rounded_46 (lv_at hl 0 rfl) ?_
    refine lv_isub hx hb d_Form_rounded_48 ?_
    refine lv_iconst (v := (0 : Int32)) hx hb d_Form_rounded_49 (by decide) ?_
    refine si_ (As := [.int ((1 : Int32) - (((a2 - (q_Long_numberOfLeadingZeros a1)) + (63 : Int32)) + (fm_b i))), .int (0 : Int32)]) (rest := []) hq (c_Math_max l A ad ((1 : Int32) - (((a2 - (q_Long_numberOfLeadingZeros a1)) + (63 : Int32)) + (fm_b i))) (0 : Int32)) kB_Math_max wd_72 ⟨rfl, rfl, Nat.le_of_ble_eq_true rfl, Nat.le_of_ble_eq_true rfl⟩ rfl hl.1 rfl (Nat.le_of_ble_eq_true rfl) d_Form_rounded_50 ⟨Nat.zero_le _, Nat.zero_le _⟩ ?_
    refine lv_istore (lv' := [(10, .int (q_Math_max ((1 : Int32) - (((a2 - (q_Long_numberOfLeadingZeros a1)) + (63 : Int32)) + (fm_b i))) (0 : Int32))), (9, .int (((a2 - (q_Long_numberOfLeadingZeros a1)) + (63 : Int32)) + (fm_b i))), (7, .long (shl_ a1 (q_Long_numberOfLeadingZeros a1))), (6, .int (q_Long_numberOfLeadingZeros a1)), (0, .ref (ad i)), (1, .long a0), (3, .long a1), (5, .int a2)]) hx hb d_Form_rounded_53 hl (by decide) rfl (fun ls hl => ?_)
    refine lv_bipush (v := (63 : Int32)) hx hb d_Form_rounded_55 (by decide) ?_
    refine lv_aload_n hx hb d_Form_rounded_57 rfl (lv_at hl 4 rfl) ?_
    refine gf_f hq hi wd_64 d_Form_rounded_58 ?_
    refine lv_isub hx hb d_Form_rounded_61 ?_
    refine lv_iload hx hb d_Form_rounded_62 (lv_at hl 0 rfl) ?_
    refine lv_iadd hx hb d_Form_rounded_64 ?_
    refine lv_istore (lv' := [(11, .int (((63 : Int32) - (fm_f i)) + (q_Math_max ((1 : Int32) - (((a2 - (q_Long_numberOfLeadingZeros a1)) + (63 : Int32)) + (fm_b i))) (0 : Int32)))), (10, .int (q_Math_max ((1 : Int32) - (((a2 - (q_Long_numberOfLeadingZeros a1)) + (63 : Int32)) + (fm_b i))) (0 : Int32))), (9, .int (((a2 - (q_Long_numberOfLeadingZeros a1)) + (63 : Int32)) + (fm_b i))), (7, .long (shl_ a1 (q_Long_numberOfLeadingZeros a1))), (6, .int (q_Long_numberOfLeadingZeros a1)), (0, .ref (ad i)), (1, .long a0), (3, .long a1), (5, .int a2)]) hx hb d_Form_rounded_65 hl (by decide) rfl (fun ls hl => ?_)
    refine lv_iload hx hb d_Form_rounded_67 (lv_at hl 0 rfl) ?_
    refine lv_bipush (v := (64 : Int32)) hx hb d_Form_rounded_69 (by decide) ?_
    refine lv_icmp_le (tgt := 76) hx hb d_Form_rounded_71 (by decide) (fun c_2 => ?_) (fun c_2 => ?_)
    · refine lv_iload hx hb d_Form_rounded_76 (lv_at hl 0 rfl) ?_
      refine lv_bipush (v := (64 : Int32)) hx hb d_Form_rounded_78 (by decide) ?_
      refine lv_icmp_ne (tgt := 87) hx hb d_Form_rounded_80 (by decide) (fun c_3 => ?_) (fun c_3 => ?_)
      · refine lv_lload hx hb d_Form_rounded_87 (lv_at hl 3 rfl) ?_
        refine lv_iload hx hb d_Form_rounded_89 (lv_at hl 0 rfl) ?_
        refine lv_lushr (v := (ush_ (shl_ a1 (q_Long_numberOfLeadingZeros a1)) (((63 : Int32) - (fm_f i)) + (q_Math_max ((1 : Int32) - (((a2 - (q_Long_numberOfLeadingZeros a1)) + (63 : Int32)) + (fm_b i))) (0 : Int32))))) hx hb d_Form_rounded_91 rfl ?_
        refine lv_lstore (lv' := [(12, .long (ush_ (shl_ a1 (q_Long_numberOfLeadingZeros a1)) (((63 : Int32) - (fm_f i)) + (q_Math_max ((1 : Int32) - (((a2 - (q_Long_numberOfLeadingZeros a1)) + (63 : Int32)) + (fm_b i))) (0 : Int32))))), (11, .int (((63 : Int32) - (fm_f i)) + (q_Math_max ((1 : Int32) - (((a2 - (q_Long_numberOfLeadingZeros a1)) + (63 : Int32)) + (fm_b i))) (0 : Int32)))), (10, .int (q_Math_max ((1 : Int32) - (((a2 - (q_Long_numberOfLeadingZeros a1)) + (63 : Int32)) + (fm_b i))) (0 : Int32))), (9, .int (((a2 - (q_Long_numberOfLeadingZeros a1)) + (63 : Int32)) + (fm_b i))), (7, .long (shl_ a1 (q_Long_numberOfLeadingZeros a1))), (6, .int (q_Long_numberOfLeadingZeros a1)), (0, .ref (ad i)), (1, .long a0), (3, .long a1), (5, .int a2)]) hx hb d_Form_rounded_92 hl (by decide) rfl (fun ls hl => ?_)
        refine lv_iload hx hb d_Form_rounded_94 (lv_at hl 3 rfl) ?_
        refine lv_iconst (v := (1 : Int32)) hx hb d_Form_rounded_96 (by decide) ?_
        refine si_ (As := [.int (((a2 - (q_Long_numberOfLeadingZeros a1)) + (63 : Int32)) + (fm_b i)), .int (1 : Int32)]) (rest := []) hq (c_Math_max l A ad (((a2 - (q_Long_numberOfLeadingZeros a1)) + (63 : Int32)) + (fm_b i)) (1 : Int32)) kB_Math_max wd_72 ⟨rfl, rfl, Nat.le_of_ble_eq_true rfl, Nat.le_of_ble_eq_true rfl⟩ rfl hl.1 rfl (Nat.le_of_ble_eq_true rfl) d_Form_rounded_97 ⟨Nat.zero_le _, Nat.zero_le _⟩ ?_
        refine lv_iconst (v := (1 : Int32)) hx hb d_Form_rounded_100 (by decide) ?_
        refine lv_isub hx hb d_Form_rounded_101 ?_
        refine lv_i2l (v := (Int32.toInt64 ((q_Math_max (((a2 - (q_Long_numberOfLeadingZeros a1)) + (63 : Int32)) + (fm_b i)) (1 : Int32)) - (1 : Int32)))) hx hb d_Form_rounded_102 rfl ?_
        refine lv_aload_n hx hb d_Form_rounded_103 rfl (lv_at hl 6 rfl) ?_
        refine gf_f hq hi wd_64 d_Form_rounded_104 ?_
        refine lv_lshl (v := (shl_ (Int32.toInt64 ((q_Math_max (((a2 - (q_Long_numberOfLeadingZeros a1)) + (63 : Int32)) + (fm_b i)) (1 : Int32)) - (1 : Int32))) (fm_f i))) hx hb d_Form_rounded_107 rfl ?_
        refine lv_lstore (lv' := [(14, .long (shl_ (Int32.toInt64 ((q_Math_max (((a2 - (q_Long_numberOfLeadingZeros a1)) + (63 : Int32)) + (fm_b i)) (1 : Int32)) - (1 : Int32))) (fm_f i))), (12, .long (ush_ (shl_ a1 (q_Long_numberOfLeadingZeros a1)) (((63 : Int32) - (fm_f i)) + (q_Math_max ((1 : Int32) - (((a2 - (q_Long_numberOfLeadingZeros a1)) + (63 : Int32)) + (fm_b i))) (0 : Int32))))), (11, .int (((63 : Int32) - (fm_f i)) + (q_Math_max ((1 : Int32) - (((a2 - (q_Long_numberOfLeadingZeros a1)) + (63 : Int32)) + (fm_b i))) (0 : Int32)))), (10, .int (q_Math_max ((1 : Int32) - (((a2 - (q_Long_numberOfLeadingZeros a1)) + (63 : Int32)) + (fm_b i))) (0 : Int32))), (9, .int (((a2 - (q_Long_numberOfLeadingZeros a1)) + (63 : Int32)) + (fm_b i))), (7, .long (shl_ a1 (q_Long_numberOfLeadingZeros a1))), (6, .int (q_Long_numberOfLeadingZeros a1)), (0, .ref (ad i)), (1, .long a0), (3, .long a1), (5, .int a2)]) hx hb d_Form_rounded_108 hl (by decide) rfl (fun ls hl => ?_)
        refine lv_lload_n hx hb d_Form_rounded_110 rfl (lv_at hl 8 rfl) ?_
        refine lv_lload hx hb d_Form_rounded_111 (lv_at hl 0 rfl) ?_
        refine lv_lload hx hb d_Form_rounded_113 (lv_at hl 1 rfl) ?_
        refine lv_lload hx hb d_Form_rounded_115 (lv_at hl 5 rfl) ?_
        refine lv_bipush (v := (64 : Int32)) hx hb d_Form_rounded_117 (by decide) ?_
        refine lv_iload hx hb d_Form_rounded_119 (lv_at hl 2 rfl) ?_
        refine lv_isub hx hb d_Form_rounded_121 ?_
        refine lv_lshl (v := (shl_ (shl_ a1 (q_Long_numberOfLeadingZeros a1)) ((64 : Int32) - (((63 : Int32) - (fm_f i)) + (q_Math_max ((1 : Int32) - (((a2 - (q_Long_numberOfLeadingZeros a1)) + (63 : Int32)) + (fm_b i))) (0 : Int32)))))) hx hb d_Form_rounded_122 rfl ?_
        refine sl_ (As := [.long (ush_ (shl_ a1 (q_Long_numberOfLeadingZeros a1)) (((63 : Int32) - (fm_f i)) + (q_Math_max ((1 : Int32) - (((a2 - (q_Long_numberOfLeadingZeros a1)) + (63 : Int32)) + (fm_b i))) (0 : Int32)))), .long (shl_ (shl_ a1 (q_Long_numberOfLeadingZeros a1)) ((64 : Int32) - (((63 : Int32) - (fm_f i)) + (q_Math_max ((1 : Int32) - (((a2 - (q_Long_numberOfLeadingZeros a1)) + (63 : Int32)) + (fm_b i))) (0 : Int32)))))]) (rest := [.long (shl_ (Int32.toInt64 ((q_Math_max (((a2 - (q_Long_numberOfLeadingZeros a1)) + (63 : Int32)) + (fm_b i)) (1 : Int32)) - (1 : Int32))) (fm_f i)), .long a0]) hq (c_Form_nearest l A ad (ush_ (shl_ a1 (q_Long_numberOfLeadingZeros a1)) (((63 : Int32) - (fm_f i)) + (q_Math_max ((1 : Int32) - (((a2 - (q_Long_numberOfLeadingZeros a1)) + (63 : Int32)) + (fm_b i))) (0 : Int32)))) (shl_ (shl_ a1 (q_Long_numberOfLeadingZeros a1)) ((64 : Int32) - (((63 : Int32) - (fm_f i)) + (q_Math_max ((1 : Int32) - (((a2 - (q_Long_numberOfLeadingZeros a1)) + (63 : Int32)) + (fm_b i))) (0 : Int32)))))) kB_Form_nearest wd_81 ⟨rfl, rfl, Nat.le_of_ble_eq_true rfl, Nat.le_of_ble_eq_true rfl⟩ rfl hl.1 rfl (Nat.le_of_ble_eq_true rfl) d_Form_rounded_123 ⟨Nat.zero_le _, Nat.zero_le _⟩ ?_
        refine lv_ladd hx hb d_Form_rounded_126 ?_
        refine lv_lor hx hb d_Form_rounded_127 ?_
        exact rl_ hx hb hr hk (by rw [q_Form_rounded, if_pos c_1, if_pos c_2, if_neg c_3]) d_Form_rounded_128
      · refine lv_lconst (v := (0 : Int64)) hx hb d_Form_rounded_83 (by decide) ?_
        refine lv_goto (tgt := 92) hx hb d_Form_rounded_84 (by decide) ?_
        refine lv_lstore (lv' := [(12, .long (0 : Int64)), (11, .int (((63 : Int32) - (fm_f i)) + (q_Math_max ((1 : Int32) - (((a2 - (q_Long_numberOfLeadingZeros a1)) + (63 : Int32)) + (fm_b i))) (0 : Int32)))), (10, .int (q_Math_max ((1 : Int32) - (((a2 - (q_Long_numberOfLeadingZeros a1)) + (63 : Int32)) + (fm_b i))) (0 : Int32))), (9, .int (((a2 - (q_Long_numberOfLeadingZeros a1)) + (63 : Int32)) + (fm_b i))), (7, .long (shl_ a1 (q_Long_numberOfLeadingZeros a1))), (6, .int (q_Long_numberOfLeadingZeros a1)), (0, .ref (ad i)), (1, .long a0), (3, .long a1), (5, .int a2)]) hx hb d_Form_rounded_92 hl (by decide) rfl (fun ls hl => ?_)
        refine lv_iload hx hb d_Form_rounded_94 (lv_at hl 3 rfl) ?_
        refine lv_iconst (v := (1 : Int32)) hx hb d_Form_rounded_96 (by decide) ?_
        refine si_ (As := [.int (((a2 - (q_Long_numberOfLeadingZeros a1)) + (63 : Int32)) + (fm_b i)), .int (1 : Int32)]) (rest := []) hq (c_Math_max l A ad (((a2 - (q_Long_numberOfLeadingZeros a1)) + (63 : Int32)) + (fm_b i)) (1 : Int32)) kB_Math_max wd_72 ⟨rfl, rfl, Nat.le_of_ble_eq_true rfl, Nat.le_of_ble_eq_true rfl⟩ rfl hl.1 rfl (Nat.le_of_ble_eq_true rfl) d_Form_rounded_97 ⟨Nat.zero_le _, Nat.zero_le _⟩ ?_
        refine lv_iconst (v := (1 : Int32)) hx hb d_Form_rounded_100 (by decide) ?_
        refine lv_isub hx hb d_Form_rounded_101 ?_
        refine lv_i2l (v := (Int32.toInt64 ((q_Math_max (((a2 - (q_Long_numberOfLeadingZeros a1)) + (63 : Int32)) + (fm_b i)) (1 : Int32)) - (1 : Int32)))) hx hb d_Form_rounded_102 rfl ?_
        refine lv_aload_n hx hb d_Form_rounded_103 rfl (lv_at hl 6 rfl) ?_
        refine gf_f hq hi wd_64 d_Form_rounded_104 ?_
        refine lv_lshl (v := (shl_ (Int32.toInt64 ((q_Math_max (((a2 - (q_Long_numberOfLeadingZeros a1)) + (63 : Int32)) + (fm_b i)) (1 : Int32)) - (1 : Int32))) (fm_f i))) hx hb d_Form_rounded_107 rfl ?_
        refine lv_lstore (lv' := [(14, .long (shl_ (Int32.toInt64 ((q_Math_max (((a2 - (q_Long_numberOfLeadingZeros a1)) + (63 : Int32)) + (fm_b i)) (1 : Int32)) - (1 : Int32))) (fm_f i))), (12, .long (0 : Int64)), (11, .int (((63 : Int32) - (fm_f i)) + (q_Math_max ((1 : Int32) - (((a2 - (q_Long_numberOfLeadingZeros a1)) + (63 : Int32)) + (fm_b i))) (0 : Int32)))), (10, .int (q_Math_max ((1 : Int32) - (((a2 - (q_Long_numberOfLeadingZeros a1)) + (63 : Int32)) + (fm_b i))) (0 : Int32))), (9, .int (((a2 - (q_Long_numberOfLeadingZeros a1)) + (63 : Int32)) + (fm_b i))), (7, .long (shl_ a1 (q_Long_numberOfLeadingZeros a1))), (6, .int (q_Long_numberOfLeadingZeros a1)), (0, .ref (ad i)), (1, .long a0), (3, .long a1), (5, .int a2)]) hx hb d_Form_rounded_108 hl (by decide) rfl (fun ls hl => ?_)
        refine lv_lload_n hx hb d_Form_rounded_110 rfl (lv_at hl 8 rfl) ?_
        refine lv_lload hx hb d_Form_rounded_111 (lv_at hl 0 rfl) ?_
        refine lv_lload hx hb d_Form_rounded_113 (lv_at hl 1 rfl) ?_
        refine lv_lload hx hb d_Form_rounded_115 (lv_at hl 5 rfl) ?_
        refine lv_bipush (v := (64 : Int32)) hx hb d_Form_rounded_117 (by decide) ?_
        refine lv_iload hx hb d_Form_rounded_119 (lv_at hl 2 rfl) ?_
        refine lv_isub hx hb d_Form_rounded_121 ?_
        refine lv_lshl (v := (shl_ (shl_ a1 (q_Long_numberOfLeadingZeros a1)) ((64 : Int32) - (((63 : Int32) - (fm_f i)) + (q_Math_max ((1 : Int32) - (((a2 - (q_Long_numberOfLeadingZeros a1)) + (63 : Int32)) + (fm_b i))) (0 : Int32)))))) hx hb d_Form_rounded_122 rfl ?_
        refine sl_ (As := [.long (0 : Int64), .long (shl_ (shl_ a1 (q_Long_numberOfLeadingZeros a1)) ((64 : Int32) - (((63 : Int32) - (fm_f i)) + (q_Math_max ((1 : Int32) - (((a2 - (q_Long_numberOfLeadingZeros a1)) + (63 : Int32)) + (fm_b i))) (0 : Int32)))))]) (rest := [.long (shl_ (Int32.toInt64 ((q_Math_max (((a2 - (q_Long_numberOfLeadingZeros a1)) + (63 : Int32)) + (fm_b i)) (1 : Int32)) - (1 : Int32))) (fm_f i)), .long a0]) hq (c_Form_nearest l A ad (0 : Int64) (shl_ (shl_ a1 (q_Long_numberOfLeadingZeros a1)) ((64 : Int32) - (((63 : Int32) - (fm_f i)) + (q_Math_max ((1 : Int32) - (((a2 - (q_Long_numberOfLeadingZeros a1)) + (63 : Int32)) + (fm_b i))) (0 : Int32)))))) kB_Form_nearest wd_81 ⟨rfl, rfl, Nat.le_of_ble_eq_true rfl, Nat.le_of_ble_eq_true rfl⟩ rfl hl.1 rfl (Nat.le_of_ble_eq_true rfl) d_Form_rounded_123 ⟨Nat.zero_le _, Nat.zero_le _⟩ ?_
        refine lv_ladd hx hb d_Form_rounded_126 ?_
        refine lv_lor hx hb d_Form_rounded_127 ?_
        exact rl_ hx hb hr hk (by rw [q_Form_rounded, if_pos c_1, if_pos c_2, if_pos c_3]) d_Form_rounded_128
    · refine lv_lload_n hx hb d_Form_rounded_74 rfl (lv_at hl 6 rfl) ?_
      exact rl_ hx hb hr hk (by rw [q_Form_rounded, if_pos c_1, if_neg c_2]) d_Form_rounded_75
  · refine lv_lload_n hx hb d_Form_rounded_38 rfl (lv_at hl 4 rfl) ?_
    refine lv_aload_n hx hb d_Form_rounded_39 rfl (lv_at hl 3 rfl) ?_
    refine gf_i hq hi wd_54 d_Form_rounded_40 ?_
    refine lv_lor hx hb d_Form_rounded_43 ?_
    exact rl_ hx hb hr hk (by rw [q_Form_rounded, if_neg c_1]) d_Form_rounded_44
end
section
def q_Operations_exists (a0 : Int32) : Int32 :=
  if a0 < (69 : Int32) then
    (0 : Int32)
  else
    if (191 : Int32) < a0 then
      (0 : Int32)
    else
      (1 : Int32)
theorem kB_Operations_exists : SB y_Operations_exists b_Operations_exists 1 (some .boolean) 1 := ⟨wd_85, wd_86, wd_87, by decide +kernel⟩
set_option maxHeartbeats 4000000 in
set_option maxRecDepth 100000 in
theorem c_Operations_exists (l : Launch) (A : Nat → Prop) (ad : Nat → Nat) (a0 : Int32) : Met l y_Operations_exists (Cond.code y_Operations_exists b_Operations_exists 1 (some .boolean) :: BT) ({ frames := 0, cells := 0, slots := 0, locals := 0 }) (PC A ad [.int a0]) (vp_Si (fun r => r = q_Operations_exists a0)) 0 0 (fun _ => False) := by
  refine pm_ (by decide +kernel) (Nat.le_of_ble_eq_true rfl) ?_
  intro p e s m below meth c hq hr hk ls hl
  have hx := hq.1
  have hb := hq.2.1
  have hts := hq.2.2.2.2.1
  have hl : lv_has ls 1 [(0, .int a0)] := hl
  refine lv_iload_n hx hb d_Operations_exists_0 rfl (lv_at hl 0 rfl) ?_
  refine lv_bipush (v := (69 : Int32)) hx hb d_Operations_exists_1 (by decide) ?_
  refine lv_icmp_lt (tgt := 17) hx hb d_Operations_exists_3 (by decide) (fun c_1 => ?_) (fun c_1 => ?_)
  · refine lv_iconst (v := (0 : Int32)) hx hb d_Operations_exists_17 (by decide) ?_
    exact rz_ hx hb hr hk (by decide) (by rw [q_Operations_exists, if_pos c_1]) d_Operations_exists_18
  · refine lv_iload_n hx hb d_Operations_exists_6 rfl (lv_at hl 0 rfl) ?_
    refine lv_sipush (v := (191 : Int32)) hx hb d_Operations_exists_7 (by decide) ?_
    refine lv_icmp_gt (tgt := 17) hx hb d_Operations_exists_10 (by decide) (fun c_2 => ?_) (fun c_2 => ?_)
    · refine lv_iconst (v := (0 : Int32)) hx hb d_Operations_exists_17 (by decide) ?_
      exact rz_ hx hb hr hk (by decide) (by rw [q_Operations_exists, if_neg c_1, if_pos c_2]) d_Operations_exists_18
    · refine lv_iconst (v := (1 : Int32)) hx hb d_Operations_exists_13 (by decide) ?_
      refine lv_goto (tgt := 18) hx hb d_Operations_exists_14 (by decide) ?_
      exact rz_ hx hb hr hk (by decide) (by rw [q_Operations_exists, if_neg c_1, if_neg c_2]) d_Operations_exists_18
def q_Operations_isTwin (a0 : Int32) : Int32 :=
  if a0 < (80 : Int32) then
    if a0 < (97 : Int32) then
      if a0 < (121 : Int32) then
        if a0 < (153 : Int32) then
          (0 : Int32)
        else
          if (166 : Int32) < a0 then
            (0 : Int32)
          else
            (1 : Int32)
      else
        if a0 ≤ (138 : Int32) then
          (1 : Int32)
        else
          if a0 < (153 : Int32) then
            (0 : Int32)
          else
            if (166 : Int32) < a0 then
              (0 : Int32)
            else
              (1 : Int32)
    else
      if a0 ≤ (102 : Int32) then
        (1 : Int32)
      else
        if a0 < (121 : Int32) then
          if a0 < (153 : Int32) then
            (0 : Int32)
          else
            if (166 : Int32) < a0 then
              (0 : Int32)
            else
              (1 : Int32)
        else
          if a0 ≤ (138 : Int32) then
            (1 : Int32)
          else
            if a0 < (153 : Int32) then
              (0 : Int32)
            else
              if (166 : Int32) < a0 then
                (0 : Int32)
              else
                (1 : Int32)
  else
    if a0 ≤ (90 : Int32) then
      (1 : Int32)
    else
      if a0 < (97 : Int32) then
        if a0 < (121 : Int32) then
          if a0 < (153 : Int32) then
            (0 : Int32)
          else
            if (166 : Int32) < a0 then
              (0 : Int32)
            else
              (1 : Int32)
        else
          if a0 ≤ (138 : Int32) then
            (1 : Int32)
          else
            if a0 < (153 : Int32) then
              (0 : Int32)
            else
              if (166 : Int32) < a0 then
                (0 : Int32)
              else
                (1 : Int32)
      else
        if a0 ≤ (102 : Int32) then
          (1 : Int32)
        else
          if a0 < (121 : Int32) then
            if a0 < (153 : Int32) then
              (0 : Int32)
            else
              if (166 : Int32) < a0 then
                (0 : Int32)
              else
                (1 : Int32)
          else
            if a0 ≤ (138 : Int32) then
              (1 : Int32)
            else
              if a0 < (153 : Int32) then
                (0 : Int32)
              else
                if (166 : Int32) < a0 then
                  (0 : Int32)
                else
                  (1 : Int32)
theorem kB_Operations_isTwin : SB y_Operations_isTwin b_Operations_isTwin 1 (some .boolean) 1 := ⟨wd_88, wd_89, wd_87, by decide +kernel⟩
set_option maxHeartbeats 4000000 in
set_option maxRecDepth 100000 in
theorem c_Operations_isTwin (l : Launch) (A : Nat → Prop) (ad : Nat → Nat) (a0 : Int32) : Met l y_Operations_isTwin (Cond.code y_Operations_isTwin b_Operations_isTwin 1 (some .boolean) :: BT) ({ frames := 0, cells := 0, slots := 0, locals := 0 }) (PC A ad [.int a0]) (vp_Si (fun r => r = q_Operations_isTwin a0)) 0 0 (fun _ => False) := by
  refine pm_ (by decide +kernel) (Nat.le_of_ble_eq_true rfl) ?_
  intro p e s m below meth c hq hr hk ls hl
  have hx := hq.1
  have hb := hq.2.1
  have hts := hq.2.2.2.2.1
  have hl : lv_has ls 1 [(0, .int a0)] := hl
  refine lv_iload_n hx hb d_Operations_isTwin_0 rfl (lv_at hl 0 rfl) ?_
  refine lv_bipush (v := (80 : Int32)) hx hb d_Operations_isTwin_1 (by decide) ?_
  refine lv_icmp_lt (tgt := 12) hx hb d_Operations_isTwin_3 (by decide) (fun c_1 => ?_) (fun c_1 => ?_)
  · refine lv_iload_n hx hb d_Operations_isTwin_12 rfl (lv_at hl 0 rfl) ?_
    refine lv_bipush (v := (97 : Int32)) hx hb d_Operations_isTwin_13 (by decide) ?_
    refine lv_icmp_lt (tgt := 24) hx hb d_Operations_isTwin_15 (by decide) (fun c_2 => ?_) (fun c_2 => ?_)
    · refine lv_iload_n hx hb d_Operations_isTwin_24 rfl (lv_at hl 0 rfl) ?_
      refine lv_bipush (v := (121 : Int32)) hx hb d_Operations_isTwin_25 (by decide) ?_
      refine lv_icmp_lt (tgt := 37) hx hb d_Operations_isTwin_27 (by decide) (fun c_3 => ?_) (fun c_3 => ?_)
      · refine lv_iload_n hx hb d_Operations_isTwin_37 rfl (lv_at hl 0 rfl) ?_
        refine lv_sipush (v := (153 : Int32)) hx hb d_Operations_isTwin_38 (by decide) ?_
        refine lv_icmp_lt (tgt := 55) hx hb d_Operations_isTwin_41 (by decide) (fun c_4 => ?_) (fun c_4 => ?_)
        · refine lv_iconst (v := (0 : Int32)) hx hb d_Operations_isTwin_55 (by decide) ?_
          exact rz_ hx hb hr hk (by decide) (by rw [q_Operations_isTwin, if_pos c_1, if_pos c_2, if_pos c_3, if_pos c_4]) d_Operations_isTwin_56
        · refine lv_iload_n hx hb d_Operations_isTwin_44 rfl (lv_at hl 0 rfl) ?_
          refine lv_sipush (v := (166 : Int32)) hx hb d_Operations_isTwin_45 (by decide) ?_
          refine lv_icmp_gt (tgt := 55) hx hb d_Operations_isTwin_48 (by decide) (fun c_5 => ?_) (fun c_5 => ?_)
          · refine lv_iconst (v := (0 : Int32)) hx hb d_Operations_isTwin_55 (by decide) ?_
            exact rz_ hx hb hr hk (by decide) (by rw [q_Operations_isTwin, if_pos c_1, if_pos c_2, if_pos c_3, if_neg c_4, if_pos c_5]) d_Operations_isTwin_56
          · refine lv_iconst (v := (1 : Int32)) hx hb d_Operations_isTwin_51 (by decide) ?_
            refine lv_goto (tgt := 56) hx hb d_Operations_isTwin_52 (by decide) ?_
            exact rz_ hx hb hr hk (by decide) (by rw [q_Operations_isTwin, if_pos c_1, if_pos c_2, if_pos c_3, if_neg c_4, if_neg c_5]) d_Operations_isTwin_56
      · refine lv_iload_n hx hb d_Operations_isTwin_30 rfl (lv_at hl 0 rfl) ?_
        refine lv_sipush (v := (138 : Int32)) hx hb d_Operations_isTwin_31 (by decide) ?_
        refine lv_icmp_le (tgt := 51) hx hb d_Operations_isTwin_34 (by decide) (fun c_6 => ?_) (fun c_6 => ?_)
        · refine lv_iconst (v := (1 : Int32)) hx hb d_Operations_isTwin_51 (by decide) ?_
          refine lv_goto (tgt := 56) hx hb d_Operations_isTwin_52 (by decide) ?_
          exact rz_ hx hb hr hk (by decide) (by rw [q_Operations_isTwin, if_pos c_1, if_pos c_2, if_neg c_3, if_pos c_6]) d_Operations_isTwin_56
        · refine lv_iload_n hx hb d_Operations_isTwin_37 rfl (lv_at hl 0 rfl) ?_
          refine lv_sipush (v := (153 : Int32)) hx hb d_Operations_isTwin_38 (by decide) ?_
          refine lv_icmp_lt (tgt := 55) hx hb d_Operations_isTwin_41 (by decide) (fun c_7 => ?_) (fun c_7 => ?_)
          · refine lv_iconst (v := (0 : Int32)) hx hb d_Operations_isTwin_55 (by decide) ?_
            exact rz_ hx hb hr hk (by decide) (by rw [q_Operations_isTwin, if_pos c_1, if_pos c_2, if_neg c_3, if_neg c_6, if_pos c_7]) d_Operations_isTwin_56
          · refine lv_iload_n hx hb d_Operations_isTwin_44 rfl (lv_at hl 0 rfl) ?_
            refine lv_sipush (v := (166 : Int32)) hx hb d_Operations_isTwin_45 (by decide) ?_
            refine lv_icmp_gt (tgt := 55) hx hb d_Operations_isTwin_48 (by decide) (fun c_8 => ?_) (fun c_8 => ?_)
            · refine lv_iconst (v := (0 : Int32)) hx hb d_Operations_isTwin_55 (by decide) ?_
              exact rz_ hx hb hr hk (by decide) (by rw [q_Operations_isTwin, if_pos c_1, if_pos c_2, if_neg c_3, if_neg c_6, if_neg c_7, if_pos c_8]) d_Operations_isTwin_56
            · refine lv_iconst (v := (1 : Int32)) hx hb d_Operations_isTwin_51 (by decide) ?_
              refine lv_goto (tgt := 56) hx hb d_Operations_isTwin_52 (by decide) ?_
              exact rz_ hx hb hr hk (by decide) (by rw [q_Operations_isTwin, if_pos c_1, if_pos c_2, if_neg c_3, if_neg c_6, if_neg c_7, if_neg c_8]) d_Operations_isTwin_56
    · refine lv_iload_n hx hb d_Operations_isTwin_18 rfl (lv_at hl 0 rfl) ?_
      refine lv_bipush (v := (102 : Int32)) hx hb d_Operations_isTwin_19 (by decide) ?_
      refine lv_icmp_le (tgt := 51) hx hb d_Operations_isTwin_21 (by decide) (fun c_9 => ?_) (fun c_9 => ?_)
      · refine lv_iconst (v := (1 : Int32)) hx hb d_Operations_isTwin_51 (by decide) ?_
        refine lv_goto (tgt := 56) hx hb d_Operations_isTwin_52 (by decide) ?_
        exact rz_ hx hb hr hk (by decide) (by rw [q_Operations_isTwin, if_pos c_1, if_neg c_2, if_pos c_9]) d_Operations_isTwin_56
      · refine lv_iload_n hx hb d_Operations_isTwin_24 rfl (lv_at hl 0 rfl) ?_
        refine lv_bipush (v := (121 : Int32)) hx hb d_Operations_isTwin_25 (by decide) ?_
        refine lv_icmp_lt (tgt := 37) hx hb d_Operations_isTwin_27 (by decide) (fun c_10 => ?_) (fun c_10 => ?_)
        · refine lv_iload_n hx hb d_Operations_isTwin_37 rfl (lv_at hl 0 rfl) ?_
          refine lv_sipush (v := (153 : Int32)) hx hb d_Operations_isTwin_38 (by decide) ?_
          refine lv_icmp_lt (tgt := 55) hx hb d_Operations_isTwin_41 (by decide) (fun c_11 => ?_) (fun c_11 => ?_)
          · refine lv_iconst (v := (0 : Int32)) hx hb d_Operations_isTwin_55 (by decide) ?_
            exact rz_ hx hb hr hk (by decide) (by rw [q_Operations_isTwin, if_pos c_1, if_neg c_2, if_neg c_9, if_pos c_10, if_pos c_11]) d_Operations_isTwin_56
          · refine lv_iload_n hx hb d_Operations_isTwin_44 rfl (lv_at hl 0 rfl) ?_
            refine lv_sipush (v := (166 : Int32)) hx hb d_Operations_isTwin_45 (by decide) ?_
            refine lv_icmp_gt (tgt := 55) hx hb d_Operations_isTwin_48 (by decide) (fun c_12 => ?_) (fun c_12 => ?_)
            · refine lv_iconst (v := (0 : Int32)) hx hb d_Operations_isTwin_55 (by decide) ?_
              exact rz_ hx hb hr hk (by decide) (by rw [q_Operations_isTwin, if_pos c_1, if_neg c_2, if_neg c_9, if_pos c_10, if_neg c_11, if_pos c_12]) d_Operations_isTwin_56
            · refine lv_iconst (v := (1 : Int32)) hx hb d_Operations_isTwin_51 (by decide) ?_
              refine lv_goto (tgt := 56) hx hb d_Operations_isTwin_52 (by decide) ?_
              exact rz_ hx hb hr hk (by decide) (by rw [q_Operations_isTwin, if_pos c_1, if_neg c_2, if_neg c_9, if_pos c_10, if_neg c_11, if_neg c_12]) d_Operations_isTwin_56
        · refine lv_iload_n hx hb d_Operations_isTwin_30 rfl (lv_at hl 0 rfl) ?_
          refine lv_sipush (v := (138 : Int32)) hx hb d_Operations_isTwin_31 (by decide) ?_
          refine lv_icmp_le (tgt := 51) hx hb d_Operations_isTwin_34 (by decide) (fun c_13 => ?_) (fun c_13 => ?_)
          · refine lv_iconst (v := (1 : Int32)) hx hb d_Operations_isTwin_51 (by decide) ?_
            refine lv_goto (tgt := 56) hx hb d_Operations_isTwin_52 (by decide) ?_
            exact rz_ hx hb hr hk (by decide) (by rw [q_Operations_isTwin, if_pos c_1, if_neg c_2, if_neg c_9, if_neg c_10, if_pos c_13]) d_Operations_isTwin_56
          · refine lv_iload_n hx hb d_Operations_isTwin_37 rfl (lv_at hl 0 rfl) ?_
            refine lv_sipush (v := (153 : Int32)) hx hb d_Operations_isTwin_38 (by decide) ?_
            refine lv_icmp_lt (tgt := 55) hx hb d_Operations_isTwin_41 (by decide) (fun c_14 => ?_) (fun c_14 => ?_)
            · refine lv_iconst (v := (0 : Int32)) hx hb d_Operations_isTwin_55 (by decide) ?_
              exact rz_ hx hb hr hk (by decide) (by rw [q_Operations_isTwin, if_pos c_1, if_neg c_2, if_neg c_9, if_neg c_10, if_neg c_13, if_pos c_14]) d_Operations_isTwin_56
            · refine lv_iload_n hx hb d_Operations_isTwin_44 rfl (lv_at hl 0 rfl) ?_
              refine lv_sipush (v := (166 : Int32)) hx hb d_Operations_isTwin_45 (by decide) ?_
              refine lv_icmp_gt (tgt := 55) hx hb d_Operations_isTwin_48 (by decide) (fun c_15 => ?_) (fun c_15 => ?_)
              · refine lv_iconst (v := (0 : Int32)) hx hb d_Operations_isTwin_55 (by decide) ?_
                exact rz_ hx hb hr hk (by decide) (by rw [q_Operations_isTwin, if_pos c_1, if_neg c_2, if_neg c_9, if_neg c_10, if_neg c_13, if_neg c_14, if_pos c_15]) d_Operations_isTwin_56
              · refine lv_iconst (v := (1 : Int32)) hx hb d_Operations_isTwin_51 (by decide) ?_
                refine lv_goto (tgt := 56) hx hb d_Operations_isTwin_52 (by decide) ?_
                exact rz_ hx hb hr hk (by decide) (by rw [q_Operations_isTwin, if_pos c_1, if_neg c_2, if_neg c_9, if_neg c_10, if_neg c_13, if_neg c_14, if_neg c_15]) d_Operations_isTwin_56
  · refine lv_iload_n hx hb d_Operations_isTwin_6 rfl (lv_at hl 0 rfl) ?_
    refine lv_bipush (v := (90 : Int32)) hx hb d_Operations_isTwin_7 (by decide) ?_
    refine lv_icmp_le (tgt := 51) hx hb d_Operations_isTwin_9 (by decide) (fun c_16 => ?_) (fun c_16 => ?_)
    · refine lv_iconst (v := (1 : Int32)) hx hb d_Operations_isTwin_51 (by decide) ?_
      refine lv_goto (tgt := 56) hx hb d_Operations_isTwin_52 (by decide) ?_
      exact rz_ hx hb hr hk (by decide) (by rw [q_Operations_isTwin, if_neg c_1, if_pos c_16]) d_Operations_isTwin_56
    · refine lv_iload_n hx hb d_Operations_isTwin_12 rfl (lv_at hl 0 rfl) ?_
      refine lv_bipush (v := (97 : Int32)) hx hb d_Operations_isTwin_13 (by decide) ?_
      refine lv_icmp_lt (tgt := 24) hx hb d_Operations_isTwin_15 (by decide) (fun c_17 => ?_) (fun c_17 => ?_)
      · refine lv_iload_n hx hb d_Operations_isTwin_24 rfl (lv_at hl 0 rfl) ?_
        refine lv_bipush (v := (121 : Int32)) hx hb d_Operations_isTwin_25 (by decide) ?_
        refine lv_icmp_lt (tgt := 37) hx hb d_Operations_isTwin_27 (by decide) (fun c_18 => ?_) (fun c_18 => ?_)
        · refine lv_iload_n hx hb d_Operations_isTwin_37 rfl (lv_at hl 0 rfl) ?_
          refine lv_sipush (v := (153 : Int32)) hx hb d_Operations_isTwin_38 (by decide) ?_
          refine lv_icmp_lt (tgt := 55) hx hb d_Operations_isTwin_41 (by decide) (fun c_19 => ?_) (fun c_19 => ?_)
          · refine lv_iconst (v := (0 : Int32)) hx hb d_Operations_isTwin_55 (by decide) ?_
            exact rz_ hx hb hr hk (by decide) (by rw [q_Operations_isTwin, if_neg c_1, if_neg c_16, if_pos c_17, if_pos c_18, if_pos c_19]) d_Operations_isTwin_56
          · refine lv_iload_n hx hb d_Operations_isTwin_44 rfl (lv_at hl 0 rfl) ?_
            refine lv_sipush (v := (166 : Int32)) hx hb d_Operations_isTwin_45 (by decide) ?_
            refine lv_icmp_gt (tgt := 55) hx hb d_Operations_isTwin_48 (by decide) (fun c_20 => ?_) (fun c_20 => ?_)
            · refine lv_iconst (v := (0 : Int32)) hx hb d_Operations_isTwin_55 (by decide) ?_
              exact rz_ hx hb hr hk (by decide) (by rw [q_Operations_isTwin, if_neg c_1, if_neg c_16, if_pos c_17, if_pos c_18, if_neg c_19, if_pos c_20]) d_Operations_isTwin_56
            · refine lv_iconst (v := (1 : Int32)) hx hb d_Operations_isTwin_51 (by decide) ?_
              refine lv_goto (tgt := 56) hx hb d_Operations_isTwin_52 (by decide) ?_
              exact rz_ hx hb hr hk (by decide) (by rw [q_Operations_isTwin, if_neg c_1, if_neg c_16, if_pos c_17, if_pos c_18, if_neg c_19, if_neg c_20]) d_Operations_isTwin_56
        · refine lv_iload_n hx hb d_Operations_isTwin_30 rfl (lv_at hl 0 rfl) ?_
          refine lv_sipush (v := (138 : Int32)) hx hb d_Operations_isTwin_31 (by decide) ?_
          refine lv_icmp_le (tgt := 51) hx hb d_Operations_isTwin_34 (by decide) (fun c_21 => ?_) (fun c_21 => ?_)
          · refine lv_iconst (v := (1 : Int32)) hx hb d_Operations_isTwin_51 (by decide) ?_
            refine lv_goto (tgt := 56) hx hb d_Operations_isTwin_52 (by decide) ?_
            exact rz_ hx hb hr hk (by decide) (by rw [q_Operations_isTwin, if_neg c_1, if_neg c_16, if_pos c_17, if_neg c_18, if_pos c_21]) d_Operations_isTwin_56
          · refine lv_iload_n hx hb d_Operations_isTwin_37 rfl (lv_at hl 0 rfl) ?_
            refine lv_sipush (v := (153 : Int32)) hx hb d_Operations_isTwin_38 (by decide) ?_
            refine lv_icmp_lt (tgt := 55) hx hb d_Operations_isTwin_41 (by decide) (fun c_22 => ?_) (fun c_22 => ?_)
            · refine lv_iconst (v := (0 : Int32)) hx hb d_Operations_isTwin_55 (by decide) ?_
              exact rz_ hx hb hr hk (by decide) (by rw [q_Operations_isTwin, if_neg c_1, if_neg c_16, if_pos c_17, if_neg c_18, if_neg c_21, if_pos c_22]) d_Operations_isTwin_56
            · refine lv_iload_n hx hb d_Operations_isTwin_44 rfl (lv_at hl 0 rfl) ?_
              refine lv_sipush (v := (166 : Int32)) hx hb d_Operations_isTwin_45 (by decide) ?_
              refine lv_icmp_gt (tgt := 55) hx hb d_Operations_isTwin_48 (by decide) (fun c_23 => ?_) (fun c_23 => ?_)
              · refine lv_iconst (v := (0 : Int32)) hx hb d_Operations_isTwin_55 (by decide) ?_
                exact rz_ hx hb hr hk (by decide) (by rw [q_Operations_isTwin, if_neg c_1, if_neg c_16, if_pos c_17, if_neg c_18, if_neg c_21, if_neg c_22, if_pos c_23]) d_Operations_isTwin_56
              · refine lv_iconst (v := (1 : Int32)) hx hb d_Operations_isTwin_51 (by decide) ?_
                refine lv_goto (tgt := 56) hx hb d_Operations_isTwin_52 (by decide) ?_
                exact rz_ hx hb hr hk (by decide) (by rw [q_Operations_isTwin, if_neg c_1, if_neg c_16, if_pos c_17, if_neg c_18, if_neg c_21, if_neg c_22, if_neg c_23]) d_Operations_isTwin_56
      · refine lv_iload_n hx hb d_Operations_isTwin_18 rfl (lv_at hl 0 rfl) ?_
        refine lv_bipush (v := (102 : Int32)) hx hb d_Operations_isTwin_19 (by decide) ?_
        refine lv_icmp_le (tgt := 51) hx hb d_Operations_isTwin_21 (by decide) (fun c_24 => ?_) (fun c_24 => ?_)
        · refine lv_iconst (v := (1 : Int32)) hx hb d_Operations_isTwin_51 (by decide) ?_
          refine lv_goto (tgt := 56) hx hb d_Operations_isTwin_52 (by decide) ?_
          exact rz_ hx hb hr hk (by decide) (by rw [q_Operations_isTwin, if_neg c_1, if_neg c_16, if_neg c_17, if_pos c_24]) d_Operations_isTwin_56
        · refine lv_iload_n hx hb d_Operations_isTwin_24 rfl (lv_at hl 0 rfl) ?_
          refine lv_bipush (v := (121 : Int32)) hx hb d_Operations_isTwin_25 (by decide) ?_
          refine lv_icmp_lt (tgt := 37) hx hb d_Operations_isTwin_27 (by decide) (fun c_25 => ?_) (fun c_25 => ?_)
          · refine lv_iload_n hx hb d_Operations_isTwin_37 rfl (lv_at hl 0 rfl) ?_
            refine lv_sipush (v := (153 : Int32)) hx hb d_Operations_isTwin_38 (by decide) ?_
            refine lv_icmp_lt (tgt := 55) hx hb d_Operations_isTwin_41 (by decide) (fun c_26 => ?_) (fun c_26 => ?_)
            · refine lv_iconst (v := (0 : Int32)) hx hb d_Operations_isTwin_55 (by decide) ?_
              exact rz_ hx hb hr hk (by decide) (by rw [q_Operations_isTwin, if_neg c_1, if_neg c_16, if_neg c_17, if_neg c_24, if_pos c_25, if_pos c_26]) d_Operations_isTwin_56
            · refine lv_iload_n hx hb d_Operations_isTwin_44 rfl (lv_at hl 0 rfl) ?_
              refine lv_sipush (v := (166 : Int32)) hx hb d_Operations_isTwin_45 (by decide) ?_
              refine lv_icmp_gt (tgt := 55) hx hb d_Operations_isTwin_48 (by decide) (fun c_27 => ?_) (fun c_27 => ?_)
              · refine lv_iconst (v := (0 : Int32)) hx hb d_Operations_isTwin_55 (by decide) ?_
                exact rz_ hx hb hr hk (by decide) (by rw [q_Operations_isTwin, if_neg c_1, if_neg c_16, if_neg c_17, if_neg c_24, if_pos c_25, if_neg c_26, if_pos c_27]) d_Operations_isTwin_56
              · refine lv_iconst (v := (1 : Int32)) hx hb d_Operations_isTwin_51 (by decide) ?_
                refine lv_goto (tgt := 56) hx hb d_Operations_isTwin_52 (by decide) ?_
                exact rz_ hx hb hr hk (by decide) (by rw [q_Operations_isTwin, if_neg c_1, if_neg c_16, if_neg c_17, if_neg c_24, if_pos c_25, if_neg c_26, if_neg c_27]) d_Operations_isTwin_56
          · refine lv_iload_n hx hb d_Operations_isTwin_30 rfl (lv_at hl 0 rfl) ?_
            refine lv_sipush (v := (138 : Int32)) hx hb d_Operations_isTwin_31 (by decide) ?_
            refine lv_icmp_le (tgt := 51) hx hb d_Operations_isTwin_34 (by decide) (fun c_28 => ?_) (fun c_28 => ?_)
            · refine lv_iconst (v := (1 : Int32)) hx hb d_Operations_isTwin_51 (by decide) ?_
              refine lv_goto (tgt := 56) hx hb d_Operations_isTwin_52 (by decide) ?_
              exact rz_ hx hb hr hk (by decide) (by rw [q_Operations_isTwin, if_neg c_1, if_neg c_16, if_neg c_17, if_neg c_24, if_neg c_25, if_pos c_28]) d_Operations_isTwin_56
            · refine lv_iload_n hx hb d_Operations_isTwin_37 rfl (lv_at hl 0 rfl) ?_
              refine lv_sipush (v := (153 : Int32)) hx hb d_Operations_isTwin_38 (by decide) ?_
              refine lv_icmp_lt (tgt := 55) hx hb d_Operations_isTwin_41 (by decide) (fun c_29 => ?_) (fun c_29 => ?_)
              · refine lv_iconst (v := (0 : Int32)) hx hb d_Operations_isTwin_55 (by decide) ?_
                exact rz_ hx hb hr hk (by decide) (by rw [q_Operations_isTwin, if_neg c_1, if_neg c_16, if_neg c_17, if_neg c_24, if_neg c_25, if_neg c_28, if_pos c_29]) d_Operations_isTwin_56
              · refine lv_iload_n hx hb d_Operations_isTwin_44 rfl (lv_at hl 0 rfl) ?_
                refine lv_sipush (v := (166 : Int32)) hx hb d_Operations_isTwin_45 (by decide) ?_
                refine lv_icmp_gt (tgt := 55) hx hb d_Operations_isTwin_48 (by decide) (fun c_30 => ?_) (fun c_30 => ?_)
                · refine lv_iconst (v := (0 : Int32)) hx hb d_Operations_isTwin_55 (by decide) ?_
                  exact rz_ hx hb hr hk (by decide) (by rw [q_Operations_isTwin, if_neg c_1, if_neg c_16, if_neg c_17, if_neg c_24, if_neg c_25, if_neg c_28, if_neg c_29, if_pos c_30]) d_Operations_isTwin_56
                · refine lv_iconst (v := (1 : Int32)) hx hb d_Operations_isTwin_51 (by decide) ?_
                  refine lv_goto (tgt := 56) hx hb d_Operations_isTwin_52 (by decide) ?_
                  exact rz_ hx hb hr hk (by decide) (by rw [q_Operations_isTwin, if_neg c_1, if_neg c_16, if_neg c_17, if_neg c_24, if_neg c_25, if_neg c_28, if_neg c_29, if_neg c_30]) d_Operations_isTwin_56
def q_Operations_of32 (a0 : Int32) : Int32 :=
  if (q_Operations_isTwin a0) = 0 then
    a0
  else
    if (90 : Int32) < a0 then
      if (102 : Int32) < a0 then
        if (138 : Int32) < a0 then
          (a0 - (14 : Int32))
        else
          (a0 - (18 : Int32))
      else
        (a0 - (6 : Int32))
    else
      (a0 - (11 : Int32))
theorem kB_Operations_of32 : SB y_Operations_of32 b_Operations_of32 1 (some .int) 1 := ⟨wd_91, wd_92, wd_87, by decide +kernel⟩
set_option maxHeartbeats 4000000 in
set_option maxRecDepth 100000 in
theorem c_Operations_of32 (l : Launch) (A : Nat → Prop) (ad : Nat → Nat) (a0 : Int32) : Met l y_Operations_of32 (Cond.code y_Operations_of32 b_Operations_of32 1 (some .int) :: BT) ({ frames := 1, cells := 0, slots := 0, locals := 20 }) (PC A ad [.int a0]) (vp_Si (fun r => r = q_Operations_of32 a0)) 0 0 (fun _ => False) := by
  refine pm_ (by decide +kernel) (Nat.le_of_ble_eq_true rfl) ?_
  intro p e s m below meth c hq hr hk ls hl
  have hx := hq.1
  have hb := hq.2.1
  have hts := hq.2.2.2.2.1
  have hl : lv_has ls 1 [(0, .int a0)] := hl
  refine lv_iload_n hx hb d_Operations_of32_0 rfl (lv_at hl 0 rfl) ?_
  refine si_ (As := [.int a0]) (rest := []) hq (c_Operations_isTwin l A ad a0) kB_Operations_isTwin wd_90 ⟨rfl, rfl, Nat.le_of_ble_eq_true rfl, Nat.le_of_ble_eq_true rfl⟩ rfl hl.1 rfl (Nat.le_of_ble_eq_true rfl) d_Operations_of32_1 ⟨Nat.zero_le _, Nat.zero_le _⟩ ?_
  refine lv_if_ne (tgt := 9) hx hb d_Operations_of32_4 (by decide) (fun c_1 => ?_) (fun c_1 => ?_)
  · refine lv_iload_n hx hb d_Operations_of32_9 rfl (lv_at hl 0 rfl) ?_
    refine lv_bipush (v := (90 : Int32)) hx hb d_Operations_of32_10 (by decide) ?_
    refine lv_icmp_gt (tgt := 20) hx hb d_Operations_of32_12 (by decide) (fun c_2 => ?_) (fun c_2 => ?_)
    · refine lv_iload_n hx hb d_Operations_of32_20 rfl (lv_at hl 0 rfl) ?_
      refine lv_bipush (v := (102 : Int32)) hx hb d_Operations_of32_21 (by decide) ?_
      refine lv_icmp_gt (tgt := 31) hx hb d_Operations_of32_23 (by decide) (fun c_3 => ?_) (fun c_3 => ?_)
      · refine lv_iload_n hx hb d_Operations_of32_31 rfl (lv_at hl 0 rfl) ?_
        refine lv_sipush (v := (138 : Int32)) hx hb d_Operations_of32_32 (by decide) ?_
        refine lv_icmp_gt (tgt := 43) hx hb d_Operations_of32_35 (by decide) (fun c_4 => ?_) (fun c_4 => ?_)
        · refine lv_iload_n hx hb d_Operations_of32_43 rfl (lv_at hl 0 rfl) ?_
          refine lv_bipush (v := (14 : Int32)) hx hb d_Operations_of32_44 (by decide) ?_
          refine lv_isub hx hb d_Operations_of32_46 ?_
          exact ri_ hx hb hr hk (by rw [q_Operations_of32, if_neg c_1, if_pos c_2, if_pos c_3, if_pos c_4]) d_Operations_of32_47
        · refine lv_iload_n hx hb d_Operations_of32_38 rfl (lv_at hl 0 rfl) ?_
          refine lv_bipush (v := (18 : Int32)) hx hb d_Operations_of32_39 (by decide) ?_
          refine lv_isub hx hb d_Operations_of32_41 ?_
          exact ri_ hx hb hr hk (by rw [q_Operations_of32, if_neg c_1, if_pos c_2, if_pos c_3, if_neg c_4]) d_Operations_of32_42
      · refine lv_iload_n hx hb d_Operations_of32_26 rfl (lv_at hl 0 rfl) ?_
        refine lv_bipush (v := (6 : Int32)) hx hb d_Operations_of32_27 (by decide) ?_
        refine lv_isub hx hb d_Operations_of32_29 ?_
        exact ri_ hx hb hr hk (by rw [q_Operations_of32, if_neg c_1, if_pos c_2, if_neg c_3]) d_Operations_of32_30
    · refine lv_iload_n hx hb d_Operations_of32_15 rfl (lv_at hl 0 rfl) ?_
      refine lv_bipush (v := (11 : Int32)) hx hb d_Operations_of32_16 (by decide) ?_
      refine lv_isub hx hb d_Operations_of32_18 ?_
      exact ri_ hx hb hr hk (by rw [q_Operations_of32, if_neg c_1, if_neg c_2]) d_Operations_of32_19
  · refine lv_iload_n hx hb d_Operations_of32_7 rfl (lv_at hl 0 rfl) ?_
    exact ri_ hx hb hr hk (by rw [q_Operations_of32, if_pos c_1]) d_Operations_of32_8
end
section
def q_Wholes_test (a0 : Int32) (a1 : Int64) (a2 : Int64) : Int32 :=
  if a0 = (69 : Int32) then
    if a1 = (0 : Int64) then
      (1 : Int32)
    else
      (0 : Int32)
  else
    if a0 = (70 : Int32) then
      if a1 = a2 then
        (1 : Int32)
      else
        (0 : Int32)
    else
      if a0 = (71 : Int32) then
        if a1 = a2 then
          (0 : Int32)
        else
          (1 : Int32)
      else
        if a0 = (72 : Int32) then
          if a2 ≤ a1 then
            (0 : Int32)
          else
            (1 : Int32)
        else
          if a0 = (73 : Int32) then
            if 0 ≤ (q_Long_compareUnsigned a1 a2) then
              (0 : Int32)
            else
              (1 : Int32)
          else
            if a0 = (74 : Int32) then
              if a1 ≤ a2 then
                (0 : Int32)
              else
                (1 : Int32)
            else
              if a0 = (75 : Int32) then
                if (q_Long_compareUnsigned a1 a2) ≤ 0 then
                  (0 : Int32)
                else
                  (1 : Int32)
              else
                if a0 = (76 : Int32) then
                  if a2 < a1 then
                    (0 : Int32)
                  else
                    (1 : Int32)
                else
                  if a0 = (77 : Int32) then
                    if 0 < (q_Long_compareUnsigned a1 a2) then
                      (0 : Int32)
                    else
                      (1 : Int32)
                  else
                    if a0 = (78 : Int32) then
                      if a1 < a2 then
                        (0 : Int32)
                      else
                        (1 : Int32)
                    else
                      if (q_Long_compareUnsigned a1 a2) < 0 then
                        (0 : Int32)
                      else
                        (1 : Int32)
theorem kB_Wholes_test : SB y_Wholes_test b_Wholes_test 5 (some .boolean) 3 := ⟨wd_94, wd_95, wd_96, by decide +kernel⟩
set_option maxHeartbeats 4000000 in
set_option maxRecDepth 100000 in
theorem c_Wholes_test (l : Launch) (A : Nat → Prop) (ad : Nat → Nat) (a0 : Int32) (a1 : Int64) (a2 : Int64) : Met l y_Wholes_test (Cond.code y_Wholes_test b_Wholes_test 5 (some .boolean) :: BT) ({ frames := 2, cells := 0, slots := 0, locals := 46 }) (PC A ad [.int a0, .long a1, .long a2]) (vp_Si (fun r => r = q_Wholes_test a0 a1 a2)) 0 0 (fun _ => False) := by
  refine pm_ (by decide +kernel) (Nat.le_of_ble_eq_true rfl) ?_
  intro p e s m below meth c hq hr hk ls hl
  have hx := hq.1
  have hb := hq.2.1
  have hts := hq.2.2.2.2.1
  have hl : lv_has ls 5 [(0, .int a0), (1, .long a1), (3, .long a2)] := hl
  refine lv_iload_n hx hb d_Wholes_test_0 rfl (lv_at hl 0 rfl) ?_
  by_cases c_1 : a0 = (69 : Int32)
  · refine lv_tableIn (tgt := 56) hx hb d_Wholes_test_1 (by rw [c_1]; decide) (by rw [c_1]; decide) (by rw [c_1]; rfl) (by decide) ?_
    refine lv_lload_n hx hb d_Wholes_test_56 rfl (lv_at hl 1 rfl) ?_
    refine lv_lconst (v := (0 : Int64)) hx hb d_Wholes_test_57 (by decide) ?_
    refine W.lcmp hx hb d_Wholes_test_58 ?_
    refine lv_if_ne (tgt := 66) hx hb d_Wholes_test_59 (by decide) (fun c_2 => ?_) (fun c_2 => ?_)
    · rw [lg_cmp_eq] at c_2
      refine lv_iconst (v := (0 : Int32)) hx hb d_Wholes_test_66 (by decide) ?_
      exact rz_ hx hb hr hk (by decide) (by rw [q_Wholes_test, if_pos c_1, if_neg c_2]) d_Wholes_test_67
    · rw [lg_cmp_eq] at c_2
      refine lv_iconst (v := (1 : Int32)) hx hb d_Wholes_test_62 (by decide) ?_
      refine lv_goto (tgt := 67) hx hb d_Wholes_test_63 (by decide) ?_
      exact rz_ hx hb hr hk (by decide) (by rw [q_Wholes_test, if_pos c_1, if_pos c_2]) d_Wholes_test_67
  by_cases c_3 : a0 = (70 : Int32)
  · refine lv_tableIn (tgt := 68) hx hb d_Wholes_test_1 (by rw [c_3]; decide) (by rw [c_3]; decide) (by rw [c_3]; rfl) (by decide) ?_
    refine lv_lload_n hx hb d_Wholes_test_68 rfl (lv_at hl 1 rfl) ?_
    refine lv_lload_n hx hb d_Wholes_test_69 rfl (lv_at hl 2 rfl) ?_
    refine W.lcmp hx hb d_Wholes_test_70 ?_
    refine lv_if_ne (tgt := 78) hx hb d_Wholes_test_71 (by decide) (fun c_4 => ?_) (fun c_4 => ?_)
    · rw [lg_cmp_eq] at c_4
      refine lv_iconst (v := (0 : Int32)) hx hb d_Wholes_test_78 (by decide) ?_
      exact rz_ hx hb hr hk (by decide) (by rw [q_Wholes_test, if_neg c_1, if_pos c_3, if_neg c_4]) d_Wholes_test_79
    · rw [lg_cmp_eq] at c_4
      refine lv_iconst (v := (1 : Int32)) hx hb d_Wholes_test_74 (by decide) ?_
      refine lv_goto (tgt := 79) hx hb d_Wholes_test_75 (by decide) ?_
      exact rz_ hx hb hr hk (by decide) (by rw [q_Wholes_test, if_neg c_1, if_pos c_3, if_pos c_4]) d_Wholes_test_79
  by_cases c_5 : a0 = (71 : Int32)
  · refine lv_tableIn (tgt := 80) hx hb d_Wholes_test_1 (by rw [c_5]; decide) (by rw [c_5]; decide) (by rw [c_5]; rfl) (by decide) ?_
    refine lv_lload_n hx hb d_Wholes_test_80 rfl (lv_at hl 1 rfl) ?_
    refine lv_lload_n hx hb d_Wholes_test_81 rfl (lv_at hl 2 rfl) ?_
    refine W.lcmp hx hb d_Wholes_test_82 ?_
    refine lv_if_eq (tgt := 90) hx hb d_Wholes_test_83 (by decide) (fun c_6 => ?_) (fun c_6 => ?_)
    · rw [lg_cmp_eq] at c_6
      refine lv_iconst (v := (0 : Int32)) hx hb d_Wholes_test_90 (by decide) ?_
      exact rz_ hx hb hr hk (by decide) (by rw [q_Wholes_test, if_neg c_1, if_neg c_3, if_pos c_5, if_pos c_6]) d_Wholes_test_91
    · rw [lg_cmp_eq] at c_6
      refine lv_iconst (v := (1 : Int32)) hx hb d_Wholes_test_86 (by decide) ?_
      refine lv_goto (tgt := 91) hx hb d_Wholes_test_87 (by decide) ?_
      exact rz_ hx hb hr hk (by decide) (by rw [q_Wholes_test, if_neg c_1, if_neg c_3, if_pos c_5, if_neg c_6]) d_Wholes_test_91
  by_cases c_7 : a0 = (72 : Int32)
  · refine lv_tableIn (tgt := 92) hx hb d_Wholes_test_1 (by rw [c_7]; decide) (by rw [c_7]; decide) (by rw [c_7]; rfl) (by decide) ?_
    refine lv_lload_n hx hb d_Wholes_test_92 rfl (lv_at hl 1 rfl) ?_
    refine lv_lload_n hx hb d_Wholes_test_93 rfl (lv_at hl 2 rfl) ?_
    refine W.lcmp hx hb d_Wholes_test_94 ?_
    refine lv_if_ge (tgt := 102) hx hb d_Wholes_test_95 (by decide) (fun c_8 => ?_) (fun c_8 => ?_)
    · rw [lg_cmp_ge] at c_8
      refine lv_iconst (v := (0 : Int32)) hx hb d_Wholes_test_102 (by decide) ?_
      exact rz_ hx hb hr hk (by decide) (by rw [q_Wholes_test, if_neg c_1, if_neg c_3, if_neg c_5, if_pos c_7, if_pos c_8]) d_Wholes_test_103
    · rw [lg_cmp_ge] at c_8
      refine lv_iconst (v := (1 : Int32)) hx hb d_Wholes_test_98 (by decide) ?_
      refine lv_goto (tgt := 103) hx hb d_Wholes_test_99 (by decide) ?_
      exact rz_ hx hb hr hk (by decide) (by rw [q_Wholes_test, if_neg c_1, if_neg c_3, if_neg c_5, if_pos c_7, if_neg c_8]) d_Wholes_test_103
  by_cases c_9 : a0 = (73 : Int32)
  · refine lv_tableIn (tgt := 104) hx hb d_Wholes_test_1 (by rw [c_9]; decide) (by rw [c_9]; decide) (by rw [c_9]; rfl) (by decide) ?_
    refine lv_lload_n hx hb d_Wholes_test_104 rfl (lv_at hl 1 rfl) ?_
    refine lv_lload_n hx hb d_Wholes_test_105 rfl (lv_at hl 2 rfl) ?_
    refine si_ (As := [.long a1, .long a2]) (rest := []) hq (c_Long_compareUnsigned l A ad a1 a2) kB_Long_compareUnsigned wd_93 ⟨rfl, rfl, Nat.le_of_ble_eq_true rfl, Nat.le_of_ble_eq_true rfl⟩ rfl hl.1 rfl (Nat.le_of_ble_eq_true rfl) d_Wholes_test_106 ⟨Nat.zero_le _, Nat.zero_le _⟩ ?_
    refine lv_if_ge (tgt := 116) hx hb d_Wholes_test_109 (by decide) (fun c_10 => ?_) (fun c_10 => ?_)
    · refine lv_iconst (v := (0 : Int32)) hx hb d_Wholes_test_116 (by decide) ?_
      exact rz_ hx hb hr hk (by decide) (by rw [q_Wholes_test, if_neg c_1, if_neg c_3, if_neg c_5, if_neg c_7, if_pos c_9, if_pos c_10]) d_Wholes_test_117
    · refine lv_iconst (v := (1 : Int32)) hx hb d_Wholes_test_112 (by decide) ?_
      refine lv_goto (tgt := 117) hx hb d_Wholes_test_113 (by decide) ?_
      exact rz_ hx hb hr hk (by decide) (by rw [q_Wholes_test, if_neg c_1, if_neg c_3, if_neg c_5, if_neg c_7, if_pos c_9, if_neg c_10]) d_Wholes_test_117
  by_cases c_11 : a0 = (74 : Int32)
  · refine lv_tableIn (tgt := 118) hx hb d_Wholes_test_1 (by rw [c_11]; decide) (by rw [c_11]; decide) (by rw [c_11]; rfl) (by decide) ?_
    refine lv_lload_n hx hb d_Wholes_test_118 rfl (lv_at hl 1 rfl) ?_
    refine lv_lload_n hx hb d_Wholes_test_119 rfl (lv_at hl 2 rfl) ?_
    refine W.lcmp hx hb d_Wholes_test_120 ?_
    refine lv_if_le (tgt := 128) hx hb d_Wholes_test_121 (by decide) (fun c_12 => ?_) (fun c_12 => ?_)
    · rw [lg_cmp_le] at c_12
      refine lv_iconst (v := (0 : Int32)) hx hb d_Wholes_test_128 (by decide) ?_
      exact rz_ hx hb hr hk (by decide) (by rw [q_Wholes_test, if_neg c_1, if_neg c_3, if_neg c_5, if_neg c_7, if_neg c_9, if_pos c_11, if_pos c_12]) d_Wholes_test_129
    · rw [lg_cmp_le] at c_12
      refine lv_iconst (v := (1 : Int32)) hx hb d_Wholes_test_124 (by decide) ?_
      refine lv_goto (tgt := 129) hx hb d_Wholes_test_125 (by decide) ?_
      exact rz_ hx hb hr hk (by decide) (by rw [q_Wholes_test, if_neg c_1, if_neg c_3, if_neg c_5, if_neg c_7, if_neg c_9, if_pos c_11, if_neg c_12]) d_Wholes_test_129
  by_cases c_13 : a0 = (75 : Int32)
  · refine lv_tableIn (tgt := 130) hx hb d_Wholes_test_1 (by rw [c_13]; decide) (by rw [c_13]; decide) (by rw [c_13]; rfl) (by decide) ?_
    refine lv_lload_n hx hb d_Wholes_test_130 rfl (lv_at hl 1 rfl) ?_
    refine lv_lload_n hx hb d_Wholes_test_131 rfl (lv_at hl 2 rfl) ?_
    refine si_ (As := [.long a1, .long a2]) (rest := []) hq (c_Long_compareUnsigned l A ad a1 a2) kB_Long_compareUnsigned wd_93 ⟨rfl, rfl, Nat.le_of_ble_eq_true rfl, Nat.le_of_ble_eq_true rfl⟩ rfl hl.1 rfl (Nat.le_of_ble_eq_true rfl) d_Wholes_test_132 ⟨Nat.zero_le _, Nat.zero_le _⟩ ?_
    refine lv_if_le (tgt := 142) hx hb d_Wholes_test_135 (by decide) (fun c_14 => ?_) (fun c_14 => ?_)
    · refine lv_iconst (v := (0 : Int32)) hx hb d_Wholes_test_142 (by decide) ?_
      exact rz_ hx hb hr hk (by decide) (by rw [q_Wholes_test, if_neg c_1, if_neg c_3, if_neg c_5, if_neg c_7, if_neg c_9, if_neg c_11, if_pos c_13, if_pos c_14]) d_Wholes_test_143
    · refine lv_iconst (v := (1 : Int32)) hx hb d_Wholes_test_138 (by decide) ?_
      refine lv_goto (tgt := 143) hx hb d_Wholes_test_139 (by decide) ?_
      exact rz_ hx hb hr hk (by decide) (by rw [q_Wholes_test, if_neg c_1, if_neg c_3, if_neg c_5, if_neg c_7, if_neg c_9, if_neg c_11, if_pos c_13, if_neg c_14]) d_Wholes_test_143
  by_cases c_15 : a0 = (76 : Int32)
  · refine lv_tableIn (tgt := 144) hx hb d_Wholes_test_1 (by rw [c_15]; decide) (by rw [c_15]; decide) (by rw [c_15]; rfl) (by decide) ?_
    refine lv_lload_n hx hb d_Wholes_test_144 rfl (lv_at hl 1 rfl) ?_
    refine lv_lload_n hx hb d_Wholes_test_145 rfl (lv_at hl 2 rfl) ?_
    refine W.lcmp hx hb d_Wholes_test_146 ?_
    refine lv_if_gt (tgt := 154) hx hb d_Wholes_test_147 (by decide) (fun c_16 => ?_) (fun c_16 => ?_)
    · rw [lg_cmp_gt] at c_16
      refine lv_iconst (v := (0 : Int32)) hx hb d_Wholes_test_154 (by decide) ?_
      exact rz_ hx hb hr hk (by decide) (by rw [q_Wholes_test, if_neg c_1, if_neg c_3, if_neg c_5, if_neg c_7, if_neg c_9, if_neg c_11, if_neg c_13, if_pos c_15, if_pos c_16]) d_Wholes_test_155
    · rw [lg_cmp_gt] at c_16
      refine lv_iconst (v := (1 : Int32)) hx hb d_Wholes_test_150 (by decide) ?_
      refine lv_goto (tgt := 155) hx hb d_Wholes_test_151 (by decide) ?_
      exact rz_ hx hb hr hk (by decide) (by rw [q_Wholes_test, if_neg c_1, if_neg c_3, if_neg c_5, if_neg c_7, if_neg c_9, if_neg c_11, if_neg c_13, if_pos c_15, if_neg c_16]) d_Wholes_test_155
  by_cases c_17 : a0 = (77 : Int32)
  · refine lv_tableIn (tgt := 156) hx hb d_Wholes_test_1 (by rw [c_17]; decide) (by rw [c_17]; decide) (by rw [c_17]; rfl) (by decide) ?_
    refine lv_lload_n hx hb d_Wholes_test_156 rfl (lv_at hl 1 rfl) ?_
    refine lv_lload_n hx hb d_Wholes_test_157 rfl (lv_at hl 2 rfl) ?_
    refine si_ (As := [.long a1, .long a2]) (rest := []) hq (c_Long_compareUnsigned l A ad a1 a2) kB_Long_compareUnsigned wd_93 ⟨rfl, rfl, Nat.le_of_ble_eq_true rfl, Nat.le_of_ble_eq_true rfl⟩ rfl hl.1 rfl (Nat.le_of_ble_eq_true rfl) d_Wholes_test_158 ⟨Nat.zero_le _, Nat.zero_le _⟩ ?_
    refine lv_if_gt (tgt := 168) hx hb d_Wholes_test_161 (by decide) (fun c_18 => ?_) (fun c_18 => ?_)
    · refine lv_iconst (v := (0 : Int32)) hx hb d_Wholes_test_168 (by decide) ?_
      exact rz_ hx hb hr hk (by decide) (by rw [q_Wholes_test, if_neg c_1, if_neg c_3, if_neg c_5, if_neg c_7, if_neg c_9, if_neg c_11, if_neg c_13, if_neg c_15, if_pos c_17, if_pos c_18]) d_Wholes_test_169
    · refine lv_iconst (v := (1 : Int32)) hx hb d_Wholes_test_164 (by decide) ?_
      refine lv_goto (tgt := 169) hx hb d_Wholes_test_165 (by decide) ?_
      exact rz_ hx hb hr hk (by decide) (by rw [q_Wholes_test, if_neg c_1, if_neg c_3, if_neg c_5, if_neg c_7, if_neg c_9, if_neg c_11, if_neg c_13, if_neg c_15, if_pos c_17, if_neg c_18]) d_Wholes_test_169
  by_cases c_19 : a0 = (78 : Int32)
  · refine lv_tableIn (tgt := 170) hx hb d_Wholes_test_1 (by rw [c_19]; decide) (by rw [c_19]; decide) (by rw [c_19]; rfl) (by decide) ?_
    refine lv_lload_n hx hb d_Wholes_test_170 rfl (lv_at hl 1 rfl) ?_
    refine lv_lload_n hx hb d_Wholes_test_171 rfl (lv_at hl 2 rfl) ?_
    refine W.lcmp hx hb d_Wholes_test_172 ?_
    refine lv_if_lt (tgt := 180) hx hb d_Wholes_test_173 (by decide) (fun c_20 => ?_) (fun c_20 => ?_)
    · rw [lg_cmp_lt] at c_20
      refine lv_iconst (v := (0 : Int32)) hx hb d_Wholes_test_180 (by decide) ?_
      exact rz_ hx hb hr hk (by decide) (by rw [q_Wholes_test, if_neg c_1, if_neg c_3, if_neg c_5, if_neg c_7, if_neg c_9, if_neg c_11, if_neg c_13, if_neg c_15, if_neg c_17, if_pos c_19, if_pos c_20]) d_Wholes_test_181
    · rw [lg_cmp_lt] at c_20
      refine lv_iconst (v := (1 : Int32)) hx hb d_Wholes_test_176 (by decide) ?_
      refine lv_goto (tgt := 181) hx hb d_Wholes_test_177 (by decide) ?_
      exact rz_ hx hb hr hk (by decide) (by rw [q_Wholes_test, if_neg c_1, if_neg c_3, if_neg c_5, if_neg c_7, if_neg c_9, if_neg c_11, if_neg c_13, if_neg c_15, if_neg c_17, if_pos c_19, if_neg c_20]) d_Wholes_test_181
  have hsw : a0.toInt < 69 ∨ 78 < a0.toInt := by
    have := lv_neT c_1 (a := 69) (by decide)
    have := lv_neT c_3 (a := 70) (by decide)
    have := lv_neT c_5 (a := 71) (by decide)
    have := lv_neT c_7 (a := 72) (by decide)
    have := lv_neT c_9 (a := 73) (by decide)
    have := lv_neT c_11 (a := 74) (by decide)
    have := lv_neT c_13 (a := 75) (by decide)
    have := lv_neT c_15 (a := 76) (by decide)
    have := lv_neT c_17 (a := 77) (by decide)
    have := lv_neT c_19 (a := 78) (by decide)
    omega
  refine lv_tableOut (tgt := 182) hx hb d_Wholes_test_1 hsw (by decide) ?_
  refine lv_lload_n hx hb d_Wholes_test_182 rfl (lv_at hl 1 rfl) ?_
  refine lv_lload_n hx hb d_Wholes_test_183 rfl (lv_at hl 2 rfl) ?_
  refine si_ (As := [.long a1, .long a2]) (rest := []) hq (c_Long_compareUnsigned l A ad a1 a2) kB_Long_compareUnsigned wd_93 ⟨rfl, rfl, Nat.le_of_ble_eq_true rfl, Nat.le_of_ble_eq_true rfl⟩ rfl hl.1 rfl (Nat.le_of_ble_eq_true rfl) d_Wholes_test_184 ⟨Nat.zero_le _, Nat.zero_le _⟩ ?_
  refine lv_if_lt (tgt := 194) hx hb d_Wholes_test_187 (by decide) (fun c_21 => ?_) (fun c_21 => ?_)
  · refine lv_iconst (v := (0 : Int32)) hx hb d_Wholes_test_194 (by decide) ?_
    exact rz_ hx hb hr hk (by decide) (by rw [q_Wholes_test, if_neg c_1, if_neg c_3, if_neg c_5, if_neg c_7, if_neg c_9, if_neg c_11, if_neg c_13, if_neg c_15, if_neg c_17, if_neg c_19, if_pos c_21]) d_Wholes_test_195
  · refine lv_iconst (v := (1 : Int32)) hx hb d_Wholes_test_190 (by decide) ?_
    refine lv_goto (tgt := 195) hx hb d_Wholes_test_191 (by decide) ?_
    exact rz_ hx hb hr hk (by decide) (by rw [q_Wholes_test, if_neg c_1, if_neg c_3, if_neg c_5, if_neg c_7, if_neg c_9, if_neg c_11, if_neg c_13, if_neg c_15, if_neg c_17, if_neg c_19, if_neg c_21]) d_Wholes_test_195
def q_Wholes_counted (a0 : Int32) (a1 : Int32) (a2 : Int64) : Int64 :=
  if a0 = (103 : Int32) then
    (Int32.toInt64 ((q_Long_numberOfLeadingZeros a2) - ((64 : Int32) - a1)))
  else
    if a0 = (104 : Int32) then
      if a2 = (0 : Int64) then
        (Int32.toInt64 a1)
      else
        (Int32.toInt64 (q_Long_numberOfTrailingZeros a2))
    else
      (Int32.toInt64 (q_Long_bitCount a2))
theorem kB_Wholes_counted : SB y_Wholes_counted b_Wholes_counted 4 (some .long) 3 := ⟨wd_100, wd_101, wd_96, by decide +kernel⟩
set_option maxHeartbeats 4000000 in
set_option maxRecDepth 100000 in
theorem c_Wholes_counted (l : Launch) (A : Nat → Prop) (ad : Nat → Nat) (a0 : Int32) (a1 : Int32) (a2 : Int64) : Met l y_Wholes_counted (Cond.code y_Wholes_counted b_Wholes_counted 4 (some .long) :: BT) ({ frames := 2, cells := 0, slots := 0, locals := 43 }) (PC A ad [.int a0, .int a1, .long a2]) (vp_Sl (fun r => r = q_Wholes_counted a0 a1 a2)) 0 0 (fun _ => False) := by
  refine pm_ (by decide +kernel) (Nat.le_of_ble_eq_true rfl) ?_
  intro p e s m below meth c hq hr hk ls hl
  have hx := hq.1
  have hb := hq.2.1
  have hts := hq.2.2.2.2.1
  have hl : lv_has ls 4 [(0, .int a0), (1, .int a1), (2, .long a2)] := hl
  refine lv_iload_n hx hb d_Wholes_counted_0 rfl (lv_at hl 0 rfl) ?_
  by_cases c_1 : a0 = (103 : Int32)
  · refine lv_lookup (off := (27 : Int)) (tgt := 28) hx hb d_Wholes_counted_1 (by decide) (by rw [c_1] <;> rfl) (by decide) ?_
    refine lv_lload_n hx hb d_Wholes_counted_28 rfl (lv_at hl 2 rfl) ?_
    refine si_ (As := [.long a2]) (rest := []) hq (c_Long_numberOfLeadingZeros l A ad a2) kB_Long_numberOfLeadingZeros wd_97 ⟨rfl, rfl, Nat.le_of_ble_eq_true rfl, Nat.le_of_ble_eq_true rfl⟩ rfl hl.1 rfl (Nat.le_of_ble_eq_true rfl) d_Wholes_counted_29 ⟨Nat.zero_le _, Nat.zero_le _⟩ ?_
    refine lv_bipush (v := (64 : Int32)) hx hb d_Wholes_counted_32 (by decide) ?_
    refine lv_iload_n hx hb d_Wholes_counted_34 rfl (lv_at hl 1 rfl) ?_
    refine lv_isub hx hb d_Wholes_counted_35 ?_
    refine lv_isub hx hb d_Wholes_counted_36 ?_
    refine lv_i2l (v := (Int32.toInt64 ((q_Long_numberOfLeadingZeros a2) - ((64 : Int32) - a1)))) hx hb d_Wholes_counted_37 rfl ?_
    exact rl_ hx hb hr hk (by rw [q_Wholes_counted, if_pos c_1]) d_Wholes_counted_38
  by_cases c_2 : a0 = (104 : Int32)
  · refine lv_lookup (off := (38 : Int)) (tgt := 39) hx hb d_Wholes_counted_1 (by decide) (by rw [c_2] <;> rfl) (by decide) ?_
    refine lv_lload_n hx hb d_Wholes_counted_39 rfl (lv_at hl 2 rfl) ?_
    refine lv_lconst (v := (0 : Int64)) hx hb d_Wholes_counted_40 (by decide) ?_
    refine W.lcmp hx hb d_Wholes_counted_41 ?_
    refine lv_if_ne (tgt := 50) hx hb d_Wholes_counted_42 (by decide) (fun c_3 => ?_) (fun c_3 => ?_)
    · rw [lg_cmp_eq] at c_3
      refine lv_lload_n hx hb d_Wholes_counted_50 rfl (lv_at hl 2 rfl) ?_
      refine si_ (As := [.long a2]) (rest := []) hq (c_Long_numberOfTrailingZeros l A ad a2) kB_Long_numberOfTrailingZeros wd_98 ⟨rfl, rfl, Nat.le_of_ble_eq_true rfl, Nat.le_of_ble_eq_true rfl⟩ rfl hl.1 rfl (Nat.le_of_ble_eq_true rfl) d_Wholes_counted_51 ⟨Nat.zero_le _, Nat.zero_le _⟩ ?_
      refine lv_i2l (v := (Int32.toInt64 (q_Long_numberOfTrailingZeros a2))) hx hb d_Wholes_counted_54 rfl ?_
      exact rl_ hx hb hr hk (by rw [q_Wholes_counted, if_neg c_1, if_pos c_2, if_neg c_3]) d_Wholes_counted_55
    · rw [lg_cmp_eq] at c_3
      refine lv_iload_n hx hb d_Wholes_counted_45 rfl (lv_at hl 1 rfl) ?_
      refine lv_i2l (v := (Int32.toInt64 a1)) hx hb d_Wholes_counted_46 rfl ?_
      refine lv_goto (tgt := 55) hx hb d_Wholes_counted_47 (by decide) ?_
      exact rl_ hx hb hr hk (by rw [q_Wholes_counted, if_neg c_1, if_pos c_2, if_pos c_3]) d_Wholes_counted_55
  refine lv_lookup (off := (55 : Int)) (tgt := 56) hx hb d_Wholes_counted_1 (by decide) ((lv_osw c_1 (by decide)).trans <| (lv_osw c_2 (by decide)).trans <| rfl) (by decide) ?_
  refine lv_lload_n hx hb d_Wholes_counted_56 rfl (lv_at hl 2 rfl) ?_
  refine si_ (As := [.long a2]) (rest := []) hq (c_Long_bitCount l A ad a2) kB_Long_bitCount wd_99 ⟨rfl, rfl, Nat.le_of_ble_eq_true rfl, Nat.le_of_ble_eq_true rfl⟩ rfl hl.1 rfl (Nat.le_of_ble_eq_true rfl) d_Wholes_counted_57 ⟨Nat.zero_le _, Nat.zero_le _⟩ ?_
  refine lv_i2l (v := (Int32.toInt64 (q_Long_bitCount a2))) hx hb d_Wholes_counted_60 rfl ?_
  exact rl_ hx hb hr hk (by rw [q_Wholes_counted, if_neg c_1, if_neg c_2]) d_Wholes_counted_61
def q_Wholes_combined (a0 : Int32) (a1 : Int64) (a2 : Int64) : Int64 :=
  if a0 = (106 : Int32) then
    (a1 + a2)
  else
    if a0 = (107 : Int32) then
      (a1 - a2)
    else
      if a0 = (108 : Int32) then
        (a1 * a2)
      else
        if a0 = (113 : Int32) then
          (a1 &&& a2)
        else
          if a0 = (114 : Int32) then
            (a1 ||| a2)
          else
            (a1 ^^^ a2)
theorem kB_Wholes_combined : SB y_Wholes_combined b_Wholes_combined 5 (some .long) 3 := ⟨wd_102, wd_103, wd_96, by decide +kernel⟩
set_option maxHeartbeats 4000000 in
set_option maxRecDepth 100000 in
theorem c_Wholes_combined (l : Launch) (A : Nat → Prop) (ad : Nat → Nat) (a0 : Int32) (a1 : Int64) (a2 : Int64) : Met l y_Wholes_combined (Cond.code y_Wholes_combined b_Wholes_combined 5 (some .long) :: BT) ({ frames := 0, cells := 0, slots := 0, locals := 0 }) (PC A ad [.int a0, .long a1, .long a2]) (vp_Sl (fun r => r = q_Wholes_combined a0 a1 a2)) 0 0 (fun _ => False) := by
  refine pm_ (by decide +kernel) (Nat.le_of_ble_eq_true rfl) ?_
  intro p e s m below meth c hq hr hk ls hl
  have hx := hq.1
  have hb := hq.2.1
  have hts := hq.2.2.2.2.1
  have hl : lv_has ls 5 [(0, .int a0), (1, .long a1), (3, .long a2)] := hl
  refine lv_iload_n hx hb d_Wholes_combined_0 rfl (lv_at hl 0 rfl) ?_
  by_cases c_1 : a0 = (106 : Int32)
  · refine lv_tableIn (tgt := 52) hx hb d_Wholes_combined_1 (by rw [c_1]; decide) (by rw [c_1]; decide) (by rw [c_1]; rfl) (by decide) ?_
    refine lv_lload_n hx hb d_Wholes_combined_52 rfl (lv_at hl 1 rfl) ?_
    refine lv_lload_n hx hb d_Wholes_combined_53 rfl (lv_at hl 2 rfl) ?_
    refine lv_ladd hx hb d_Wholes_combined_54 ?_
    exact rl_ hx hb hr hk (by rw [q_Wholes_combined, if_pos c_1]) d_Wholes_combined_55
  by_cases c_2 : a0 = (107 : Int32)
  · refine lv_tableIn (tgt := 56) hx hb d_Wholes_combined_1 (by rw [c_2]; decide) (by rw [c_2]; decide) (by rw [c_2]; rfl) (by decide) ?_
    refine lv_lload_n hx hb d_Wholes_combined_56 rfl (lv_at hl 1 rfl) ?_
    refine lv_lload_n hx hb d_Wholes_combined_57 rfl (lv_at hl 2 rfl) ?_
    refine lv_lsub hx hb d_Wholes_combined_58 ?_
    exact rl_ hx hb hr hk (by rw [q_Wholes_combined, if_neg c_1, if_pos c_2]) d_Wholes_combined_59
  by_cases c_3 : a0 = (108 : Int32)
  · refine lv_tableIn (tgt := 60) hx hb d_Wholes_combined_1 (by rw [c_3]; decide) (by rw [c_3]; decide) (by rw [c_3]; rfl) (by decide) ?_
    refine lv_lload_n hx hb d_Wholes_combined_60 rfl (lv_at hl 1 rfl) ?_
    refine lv_lload_n hx hb d_Wholes_combined_61 rfl (lv_at hl 2 rfl) ?_
    refine lv_lmul hx hb d_Wholes_combined_62 ?_
    exact rl_ hx hb hr hk (by rw [q_Wholes_combined, if_neg c_1, if_neg c_2, if_pos c_3]) d_Wholes_combined_63
  by_cases c_4 : a0 = (113 : Int32)
  · refine lv_tableIn (tgt := 64) hx hb d_Wholes_combined_1 (by rw [c_4]; decide) (by rw [c_4]; decide) (by rw [c_4]; rfl) (by decide) ?_
    refine lv_lload_n hx hb d_Wholes_combined_64 rfl (lv_at hl 1 rfl) ?_
    refine lv_lload_n hx hb d_Wholes_combined_65 rfl (lv_at hl 2 rfl) ?_
    refine lv_land hx hb d_Wholes_combined_66 ?_
    exact rl_ hx hb hr hk (by rw [q_Wholes_combined, if_neg c_1, if_neg c_2, if_neg c_3, if_pos c_4]) d_Wholes_combined_67
  by_cases c_5 : a0 = (114 : Int32)
  · refine lv_tableIn (tgt := 68) hx hb d_Wholes_combined_1 (by rw [c_5]; decide) (by rw [c_5]; decide) (by rw [c_5]; rfl) (by decide) ?_
    refine lv_lload_n hx hb d_Wholes_combined_68 rfl (lv_at hl 1 rfl) ?_
    refine lv_lload_n hx hb d_Wholes_combined_69 rfl (lv_at hl 2 rfl) ?_
    refine lv_lor hx hb d_Wholes_combined_70 ?_
    exact rl_ hx hb hr hk (by rw [q_Wholes_combined, if_neg c_1, if_neg c_2, if_neg c_3, if_neg c_4, if_pos c_5]) d_Wholes_combined_71
  have hsw : a0.toInt < 106 ∨ 114 < a0.toInt ∨ a0.toInt = 109 ∨ a0.toInt = 110 ∨ a0.toInt = 111 ∨ a0.toInt = 112 := by
    have := lv_neT c_1 (a := 106) (by decide)
    have := lv_neT c_2 (a := 107) (by decide)
    have := lv_neT c_3 (a := 108) (by decide)
    have := lv_neT c_4 (a := 113) (by decide)
    have := lv_neT c_5 (a := 114) (by decide)
    omega
  have hs2 : a0.toInt < 106 ∨ 114 < a0.toInt ∨ (¬ a0.toInt < 106 ∧ ¬ 114 < a0.toInt ∧ (#[51, 55, 59, 71, 71, 71, 71, 63, 67] : Array Int)[(a0.toInt - 106).toNat]? = some 71) := by
    rcases hsw with h9 | h9 | h9 | h9 | h9 | h9
    · exact Or.inl h9
    · exact Or.inr (Or.inl h9)
    all_goals exact Or.inr (Or.inr ⟨by rw [h9]; decide, by rw [h9]; decide, by rw [h9] <;> rfl⟩)
  refine tb_dflt (tgt := 72) hx hb d_Wholes_combined_1 hs2 (by decide) ?_
  refine lv_lload_n hx hb d_Wholes_combined_72 rfl (lv_at hl 1 rfl) ?_
  refine lv_lload_n hx hb d_Wholes_combined_73 rfl (lv_at hl 2 rfl) ?_
  refine lv_lxor hx hb d_Wholes_combined_74 ?_
  exact rl_ hx hb hr hk (by rw [q_Wholes_combined, if_neg c_1, if_neg c_2, if_neg c_3, if_neg c_4, if_neg c_5]) d_Wholes_combined_75
def q_Wholes_unsignedQuotient (a0 : Int64) (a1 : Int64) : Int64 :=
  if (0 : Int64) ≤ a1 then
    if 0 ≤ (q_Long_compareUnsigned (a0 - ((shl_ ((ush_ a0 (1 : Int32)) / a1) (1 : Int32)) * a1)) a1) then
      ((shl_ ((ush_ a0 (1 : Int32)) / a1) (1 : Int32)) + (1 : Int64))
    else
      (shl_ ((ush_ a0 (1 : Int32)) / a1) (1 : Int32))
  else
    if 0 ≤ (q_Long_compareUnsigned a0 a1) then
      (1 : Int64)
    else
      (0 : Int64)
theorem kB_Wholes_unsignedQuotient : SB y_Wholes_unsignedQuotient b_Wholes_unsignedQuotient 8 (some .long) 2 := ⟨wd_104, wd_105, wd_96, by decide +kernel⟩
set_option maxHeartbeats 4000000 in
set_option maxRecDepth 100000 in
theorem c_Wholes_unsignedQuotient (l : Launch) (A : Nat → Prop) (ad : Nat → Nat) (a0 : Int64) (a1 : Int64) (hz : ¬ a1 = 0) : Met l y_Wholes_unsignedQuotient (Cond.code y_Wholes_unsignedQuotient b_Wholes_unsignedQuotient 8 (some .long) :: BT) ({ frames := 2, cells := 0, slots := 0, locals := 46 }) (PC A ad [.long a0, .long a1]) (vp_Sl (fun r => r = q_Wholes_unsignedQuotient a0 a1)) 0 0 (fun _ => False) := by
  refine pm_ (by decide +kernel) (Nat.le_of_ble_eq_true rfl) ?_
  intro p e s m below meth c hq hr hk ls hl
  have hx := hq.1
  have hb := hq.2.1
  have hts := hq.2.2.2.2.1
  have hl : lv_has ls 8 [(0, .long a0), (2, .long a1)] := hl
  refine lv_lload_n hx hb d_Wholes_unsignedQuotient_0 rfl (lv_at hl 1 rfl) ?_
  refine lv_lconst (v := (0 : Int64)) hx hb d_Wholes_unsignedQuotient_1 (by decide) ?_
  refine W.lcmp hx hb d_Wholes_unsignedQuotient_2 ?_
  refine lv_if_ge (tgt := 20) hx hb d_Wholes_unsignedQuotient_3 (by decide) (fun c_1 => ?_) (fun c_1 => ?_)
  · rw [lg_cmp_ge] at c_1
    refine lv_lload_n hx hb d_Wholes_unsignedQuotient_20 rfl (lv_at hl 0 rfl) ?_
    refine lv_iconst (v := (1 : Int32)) hx hb d_Wholes_unsignedQuotient_21 (by decide) ?_
    refine lv_lushr (v := (ush_ a0 (1 : Int32))) hx hb d_Wholes_unsignedQuotient_22 rfl ?_
    refine lv_lload_n hx hb d_Wholes_unsignedQuotient_23 rfl (lv_at hl 1 rfl) ?_
    refine lv_ldiv hx hb d_Wholes_unsignedQuotient_24 hz ?_
    refine lv_iconst (v := (1 : Int32)) hx hb d_Wholes_unsignedQuotient_25 (by decide) ?_
    refine lv_lshl (v := (shl_ ((ush_ a0 (1 : Int32)) / a1) (1 : Int32))) hx hb d_Wholes_unsignedQuotient_26 rfl ?_
    refine lv_lstore (lv' := [(4, .long (shl_ ((ush_ a0 (1 : Int32)) / a1) (1 : Int32))), (0, .long a0), (2, .long a1)]) hx hb d_Wholes_unsignedQuotient_27 hl (by decide) rfl (fun ls hl => ?_)
    refine lv_lload_n hx hb d_Wholes_unsignedQuotient_29 rfl (lv_at hl 1 rfl) ?_
    refine lv_lload hx hb d_Wholes_unsignedQuotient_30 (lv_at hl 0 rfl) ?_
    refine lv_lload_n hx hb d_Wholes_unsignedQuotient_32 rfl (lv_at hl 2 rfl) ?_
    refine lv_lmul hx hb d_Wholes_unsignedQuotient_33 ?_
    refine lv_lsub hx hb d_Wholes_unsignedQuotient_34 ?_
    refine lv_lstore (lv' := [(6, .long (a0 - ((shl_ ((ush_ a0 (1 : Int32)) / a1) (1 : Int32)) * a1))), (4, .long (shl_ ((ush_ a0 (1 : Int32)) / a1) (1 : Int32))), (0, .long a0), (2, .long a1)]) hx hb d_Wholes_unsignedQuotient_35 hl (by decide) rfl (fun ls hl => ?_)
    refine lv_lload hx hb d_Wholes_unsignedQuotient_37 (lv_at hl 0 rfl) ?_
    refine lv_lload_n hx hb d_Wholes_unsignedQuotient_39 rfl (lv_at hl 3 rfl) ?_
    refine si_ (As := [.long (a0 - ((shl_ ((ush_ a0 (1 : Int32)) / a1) (1 : Int32)) * a1)), .long a1]) (rest := []) hq (c_Long_compareUnsigned l A ad (a0 - ((shl_ ((ush_ a0 (1 : Int32)) / a1) (1 : Int32)) * a1)) a1) kB_Long_compareUnsigned wd_93 ⟨rfl, rfl, Nat.le_of_ble_eq_true rfl, Nat.le_of_ble_eq_true rfl⟩ rfl hl.1 rfl (Nat.le_of_ble_eq_true rfl) d_Wholes_unsignedQuotient_40 ⟨Nat.zero_le _, Nat.zero_le _⟩ ?_
    refine lv_if_ge (tgt := 51) hx hb d_Wholes_unsignedQuotient_43 (by decide) (fun c_2 => ?_) (fun c_2 => ?_)
    · refine lv_lload hx hb d_Wholes_unsignedQuotient_51 (lv_at hl 1 rfl) ?_
      refine lv_lconst (v := (1 : Int64)) hx hb d_Wholes_unsignedQuotient_53 (by decide) ?_
      refine lv_ladd hx hb d_Wholes_unsignedQuotient_54 ?_
      exact rl_ hx hb hr hk (by rw [q_Wholes_unsignedQuotient, if_pos c_1, if_pos c_2]) d_Wholes_unsignedQuotient_55
    · refine lv_lload hx hb d_Wholes_unsignedQuotient_46 (lv_at hl 1 rfl) ?_
      refine lv_goto (tgt := 55) hx hb d_Wholes_unsignedQuotient_48 (by decide) ?_
      exact rl_ hx hb hr hk (by rw [q_Wholes_unsignedQuotient, if_pos c_1, if_neg c_2]) d_Wholes_unsignedQuotient_55
  · rw [lg_cmp_ge] at c_1
    refine lv_lload_n hx hb d_Wholes_unsignedQuotient_6 rfl (lv_at hl 0 rfl) ?_
    refine lv_lload_n hx hb d_Wholes_unsignedQuotient_7 rfl (lv_at hl 1 rfl) ?_
    refine si_ (As := [.long a0, .long a1]) (rest := []) hq (c_Long_compareUnsigned l A ad a0 a1) kB_Long_compareUnsigned wd_93 ⟨rfl, rfl, Nat.le_of_ble_eq_true rfl, Nat.le_of_ble_eq_true rfl⟩ rfl hl.1 rfl (Nat.le_of_ble_eq_true rfl) d_Wholes_unsignedQuotient_8 ⟨Nat.zero_le _, Nat.zero_le _⟩ ?_
    refine lv_if_ge (tgt := 18) hx hb d_Wholes_unsignedQuotient_11 (by decide) (fun c_3 => ?_) (fun c_3 => ?_)
    · refine lv_lconst (v := (1 : Int64)) hx hb d_Wholes_unsignedQuotient_18 (by decide) ?_
      exact rl_ hx hb hr hk (by rw [q_Wholes_unsignedQuotient, if_neg c_1, if_pos c_3]) d_Wholes_unsignedQuotient_19
    · refine lv_lconst (v := (0 : Int64)) hx hb d_Wholes_unsignedQuotient_14 (by decide) ?_
      refine lv_goto (tgt := 19) hx hb d_Wholes_unsignedQuotient_15 (by decide) ?_
      exact rl_ hx hb hr hk (by rw [q_Wholes_unsignedQuotient, if_neg c_1, if_neg c_3]) d_Wholes_unsignedQuotient_19
def q_Wholes_turnedUp (a0 : Int32) (a1 : Int64) (a2 : Int32) : Int64 :=
  if a0 = (32 : Int32) then
    (Int32.toInt64 (q_Integer_rotateLeft (Int64.toInt32 a1) a2))
  else
    (q_Long_rotateLeft a1 a2)
theorem kB_Wholes_turnedUp : SB y_Wholes_turnedUp b_Wholes_turnedUp 4 (some .long) 3 := ⟨wd_108, wd_109, wd_96, by decide +kernel⟩
set_option maxHeartbeats 4000000 in
set_option maxRecDepth 100000 in
theorem c_Wholes_turnedUp (l : Launch) (A : Nat → Prop) (ad : Nat → Nat) (a0 : Int32) (a1 : Int64) (a2 : Int32) : Met l y_Wholes_turnedUp (Cond.code y_Wholes_turnedUp b_Wholes_turnedUp 4 (some .long) :: BT) ({ frames := 1, cells := 0, slots := 0, locals := 22 }) (PC A ad [.int a0, .long a1, .int a2]) (vp_Sl (fun r => r = q_Wholes_turnedUp a0 a1 a2)) 0 0 (fun _ => False) := by
  refine pm_ (by decide +kernel) (Nat.le_of_ble_eq_true rfl) ?_
  intro p e s m below meth c hq hr hk ls hl
  have hx := hq.1
  have hb := hq.2.1
  have hts := hq.2.2.2.2.1
  have hl : lv_has ls 4 [(0, .int a0), (1, .long a1), (3, .int a2)] := hl
  refine lv_iload_n hx hb d_Wholes_turnedUp_0 rfl (lv_at hl 0 rfl) ?_
  refine lv_bipush (v := (32 : Int32)) hx hb d_Wholes_turnedUp_1 (by decide) ?_
  refine lv_icmp_ne (tgt := 16) hx hb d_Wholes_turnedUp_3 (by decide) (fun c_1 => ?_) (fun c_1 => ?_)
  · refine lv_lload_n hx hb d_Wholes_turnedUp_16 rfl (lv_at hl 1 rfl) ?_
    refine lv_iload_n hx hb d_Wholes_turnedUp_17 rfl (lv_at hl 2 rfl) ?_
    refine sl_ (As := [.long a1, .int a2]) (rest := []) hq (c_Long_rotateLeft l A ad a1 a2) kB_Long_rotateLeft wd_106 ⟨rfl, rfl, Nat.le_of_ble_eq_true rfl, Nat.le_of_ble_eq_true rfl⟩ rfl hl.1 rfl (Nat.le_of_ble_eq_true rfl) d_Wholes_turnedUp_18 ⟨Nat.zero_le _, Nat.zero_le _⟩ ?_
    exact rl_ hx hb hr hk (by rw [q_Wholes_turnedUp, if_neg c_1]) d_Wholes_turnedUp_21
  · refine lv_lload_n hx hb d_Wholes_turnedUp_6 rfl (lv_at hl 1 rfl) ?_
    refine lv_l2i (v := (Int64.toInt32 a1)) hx hb d_Wholes_turnedUp_7 rfl ?_
    refine lv_iload_n hx hb d_Wholes_turnedUp_8 rfl (lv_at hl 2 rfl) ?_
    refine si_ (As := [.int (Int64.toInt32 a1), .int a2]) (rest := []) hq (c_Integer_rotateLeft l A ad (Int64.toInt32 a1) a2) kB_Integer_rotateLeft wd_107 ⟨rfl, rfl, Nat.le_of_ble_eq_true rfl, Nat.le_of_ble_eq_true rfl⟩ rfl hl.1 rfl (Nat.le_of_ble_eq_true rfl) d_Wholes_turnedUp_9 ⟨Nat.zero_le _, Nat.zero_le _⟩ ?_
    refine lv_i2l (v := (Int32.toInt64 (q_Integer_rotateLeft (Int64.toInt32 a1) a2))) hx hb d_Wholes_turnedUp_12 rfl ?_
    refine lv_goto (tgt := 21) hx hb d_Wholes_turnedUp_13 (by decide) ?_
    exact rl_ hx hb hr hk (by rw [q_Wholes_turnedUp, if_pos c_1]) d_Wholes_turnedUp_21
def q_Wholes_moved (a0 : Int32) (a1 : Int32) (a2 : Int64) (a3 : Int32) : Int64 :=
  if a0 = (116 : Int32) then
    (shl_ a2 a3)
  else
    if a0 = (117 : Int32) then
      (shr_ (q_Bits_signed a1 a2) a3)
    else
      if a0 = (118 : Int32) then
        (ush_ (q_Bits_lowest a1 a2) a3)
      else
        if a0 = (119 : Int32) then
          (q_Wholes_turnedUp a1 a2 a3)
        else
          (q_Wholes_turnedUp a1 a2 ((a1 - a3) &&& (a1 - (1 : Int32))))
theorem kB_Wholes_moved : SB y_Wholes_moved b_Wholes_moved 5 (some .long) 4 := ⟨wd_113, wd_114, wd_96, by decide +kernel⟩
set_option maxHeartbeats 4000000 in
set_option maxRecDepth 100000 in
theorem c_Wholes_moved (l : Launch) (A : Nat → Prop) (ad : Nat → Nat) (a0 : Int32) (a1 : Int32) (a2 : Int64) (a3 : Int32) : Met l y_Wholes_moved (Cond.code y_Wholes_moved b_Wholes_moved 5 (some .long) :: BT) ({ frames := 2, cells := 0, slots := 0, locals := 45 }) (PC A ad [.int a0, .int a1, .long a2, .int a3]) (vp_Sl (fun r => r = q_Wholes_moved a0 a1 a2 a3)) 0 0 (fun _ => False) := by
  refine pm_ (by decide +kernel) (Nat.le_of_ble_eq_true rfl) ?_
  intro p e s m below meth c hq hr hk ls hl
  have hx := hq.1
  have hb := hq.2.1
  have hts := hq.2.2.2.2.1
  have hl : lv_has ls 5 [(0, .int a0), (1, .int a1), (2, .long a2), (4, .int a3)] := hl
  refine lv_iload_n hx hb d_Wholes_moved_0 rfl (lv_at hl 0 rfl) ?_
  by_cases c_1 : a0 = (116 : Int32)
  · refine lv_tableIn (tgt := 32) hx hb d_Wholes_moved_1 (by rw [c_1]; decide) (by rw [c_1]; decide) (by rw [c_1]; rfl) (by decide) ?_
    refine lv_lload_n hx hb d_Wholes_moved_32 rfl (lv_at hl 2 rfl) ?_
    refine lv_iload hx hb d_Wholes_moved_33 (lv_at hl 3 rfl) ?_
    refine lv_lshl (v := (shl_ a2 a3)) hx hb d_Wholes_moved_35 rfl ?_
    exact rl_ hx hb hr hk (by rw [q_Wholes_moved, if_pos c_1]) d_Wholes_moved_36
  by_cases c_2 : a0 = (117 : Int32)
  · refine lv_tableIn (tgt := 37) hx hb d_Wholes_moved_1 (by rw [c_2]; decide) (by rw [c_2]; decide) (by rw [c_2]; rfl) (by decide) ?_
    refine lv_iload_n hx hb d_Wholes_moved_37 rfl (lv_at hl 1 rfl) ?_
    refine lv_lload_n hx hb d_Wholes_moved_38 rfl (lv_at hl 2 rfl) ?_
    refine sl_ (As := [.int a1, .long a2]) (rest := []) hq (c_Bits_signed l A ad a1 a2) kB_Bits_signed wd_110 ⟨rfl, rfl, Nat.le_of_ble_eq_true rfl, Nat.le_of_ble_eq_true rfl⟩ rfl hl.1 rfl (Nat.le_of_ble_eq_true rfl) d_Wholes_moved_39 ⟨Nat.zero_le _, Nat.zero_le _⟩ ?_
    refine lv_iload hx hb d_Wholes_moved_42 (lv_at hl 3 rfl) ?_
    refine lv_lshr (v := (shr_ (q_Bits_signed a1 a2) a3)) hx hb d_Wholes_moved_44 rfl ?_
    exact rl_ hx hb hr hk (by rw [q_Wholes_moved, if_neg c_1, if_pos c_2]) d_Wholes_moved_45
  by_cases c_3 : a0 = (118 : Int32)
  · refine lv_tableIn (tgt := 46) hx hb d_Wholes_moved_1 (by rw [c_3]; decide) (by rw [c_3]; decide) (by rw [c_3]; rfl) (by decide) ?_
    refine lv_iload_n hx hb d_Wholes_moved_46 rfl (lv_at hl 1 rfl) ?_
    refine lv_lload_n hx hb d_Wholes_moved_47 rfl (lv_at hl 2 rfl) ?_
    refine sl_ (As := [.int a1, .long a2]) (rest := []) hq (c_Bits_lowest l A ad a1 a2) kB_Bits_lowest wd_111 ⟨rfl, rfl, Nat.le_of_ble_eq_true rfl, Nat.le_of_ble_eq_true rfl⟩ rfl hl.1 rfl (Nat.le_of_ble_eq_true rfl) d_Wholes_moved_48 ⟨Nat.zero_le _, Nat.zero_le _⟩ ?_
    refine lv_iload hx hb d_Wholes_moved_51 (lv_at hl 3 rfl) ?_
    refine lv_lushr (v := (ush_ (q_Bits_lowest a1 a2) a3)) hx hb d_Wholes_moved_53 rfl ?_
    exact rl_ hx hb hr hk (by rw [q_Wholes_moved, if_neg c_1, if_neg c_2, if_pos c_3]) d_Wholes_moved_54
  by_cases c_4 : a0 = (119 : Int32)
  · refine lv_tableIn (tgt := 55) hx hb d_Wholes_moved_1 (by rw [c_4]; decide) (by rw [c_4]; decide) (by rw [c_4]; rfl) (by decide) ?_
    refine lv_iload_n hx hb d_Wholes_moved_55 rfl (lv_at hl 1 rfl) ?_
    refine lv_lload_n hx hb d_Wholes_moved_56 rfl (lv_at hl 2 rfl) ?_
    refine lv_iload hx hb d_Wholes_moved_57 (lv_at hl 3 rfl) ?_
    refine sl_ (As := [.int a1, .long a2, .int a3]) (rest := []) hq (c_Wholes_turnedUp l A ad a1 a2 a3) kB_Wholes_turnedUp wd_112 ⟨rfl, rfl, Nat.le_of_ble_eq_true rfl, Nat.le_of_ble_eq_true rfl⟩ rfl hl.1 rfl (Nat.le_of_ble_eq_true rfl) d_Wholes_moved_59 ⟨Nat.zero_le _, Nat.zero_le _⟩ ?_
    exact rl_ hx hb hr hk (by rw [q_Wholes_moved, if_neg c_1, if_neg c_2, if_neg c_3, if_pos c_4]) d_Wholes_moved_62
  have hsw : a0.toInt < 116 ∨ 119 < a0.toInt := by
    have := lv_neT c_1 (a := 116) (by decide)
    have := lv_neT c_2 (a := 117) (by decide)
    have := lv_neT c_3 (a := 118) (by decide)
    have := lv_neT c_4 (a := 119) (by decide)
    omega
  refine lv_tableOut (tgt := 63) hx hb d_Wholes_moved_1 hsw (by decide) ?_
  refine lv_iload_n hx hb d_Wholes_moved_63 rfl (lv_at hl 1 rfl) ?_
  refine lv_lload_n hx hb d_Wholes_moved_64 rfl (lv_at hl 2 rfl) ?_
  refine lv_iload_n hx hb d_Wholes_moved_65 rfl (lv_at hl 1 rfl) ?_
  refine lv_iload hx hb d_Wholes_moved_66 (lv_at hl 3 rfl) ?_
  refine lv_isub hx hb d_Wholes_moved_68 ?_
  refine lv_iload_n hx hb d_Wholes_moved_69 rfl (lv_at hl 1 rfl) ?_
  refine lv_iconst (v := (1 : Int32)) hx hb d_Wholes_moved_70 (by decide) ?_
  refine lv_isub hx hb d_Wholes_moved_71 ?_
  refine lv_iand hx hb d_Wholes_moved_72 ?_
  refine sl_ (As := [.int a1, .long a2, .int ((a1 - a3) &&& (a1 - (1 : Int32)))]) (rest := []) hq (c_Wholes_turnedUp l A ad a1 a2 ((a1 - a3) &&& (a1 - (1 : Int32)))) kB_Wholes_turnedUp wd_112 ⟨rfl, rfl, Nat.le_of_ble_eq_true rfl, Nat.le_of_ble_eq_true rfl⟩ rfl hl.1 rfl (Nat.le_of_ble_eq_true rfl) d_Wholes_moved_73 ⟨Nat.zero_le _, Nat.zero_le _⟩ ?_
  exact rl_ hx hb hr hk (by rw [q_Wholes_moved, if_neg c_1, if_neg c_2, if_neg c_3, if_neg c_4]) d_Wholes_moved_76
end
section
def q_Floats_asWhole (j0 : Nat) (a1 : Int64) : Int64 :=
  if (q_Form_sign j0 a1) = (0 : Int64) then
    a1
  else
    (-(q_Form_withoutSign j0 a1))
theorem kB_Floats_asWhole : SB y_Floats_asWhole b_Floats_asWhole 3 (some .long) 2 := ⟨wd_117, wd_118, wd_119, by decide +kernel⟩
set_option maxHeartbeats 4000000 in
set_option maxRecDepth 100000 in
theorem c_Floats_asWhole (l : Launch) (A : Nat → Prop) (ad : Nat → Nat) (j0 : Nat) (hj0 : j0 < 2) (a1 : Int64) : Met l y_Floats_asWhole (Cond.code y_Floats_asWhole b_Floats_asWhole 3 (some .long) :: BT) ({ frames := 1, cells := 0, slots := 0, locals := 22 }) (PC A ad [.ref (ad j0), .long a1]) (vp_Sl (fun r => r = q_Floats_asWhole j0 a1)) 0 0 (fun _ => False) := by
  refine pm_ (by decide +kernel) (Nat.le_of_ble_eq_true rfl) ?_
  intro p e s m below meth c hq hr hk ls hl
  have hx := hq.1
  have hb := hq.2.1
  have hts := hq.2.2.2.2.1
  have hl : lv_has ls 3 [(0, .ref (ad j0)), (1, .long a1)] := hl
  refine lv_aload_n hx hb d_Floats_asWhole_0 rfl (lv_at hl 0 rfl) ?_
  refine lv_lload_n hx hb d_Floats_asWhole_1 rfl (lv_at hl 1 rfl) ?_
  refine vl_ (As := [.long a1]) (rest := []) hq hj0 (c_Form_sign l A ad j0 hj0 a1) kB_Form_sign wd_115 ⟨rfl, rfl, Nat.le_of_ble_eq_true rfl, Nat.le_of_ble_eq_true rfl⟩ rfl hl.1 rfl (Nat.le_of_ble_eq_true rfl) d_Floats_asWhole_2 ⟨Nat.zero_le _, Nat.zero_le _⟩ ?_
  refine lv_lconst (v := (0 : Int64)) hx hb d_Floats_asWhole_5 (by decide) ?_
  refine W.lcmp hx hb d_Floats_asWhole_6 ?_
  refine lv_if_ne (tgt := 14) hx hb d_Floats_asWhole_7 (by decide) (fun c_1 => ?_) (fun c_1 => ?_)
  · rw [lg_cmp_eq] at c_1
    refine lv_aload_n hx hb d_Floats_asWhole_14 rfl (lv_at hl 0 rfl) ?_
    refine lv_lload_n hx hb d_Floats_asWhole_15 rfl (lv_at hl 1 rfl) ?_
    refine vl_ (As := [.long a1]) (rest := []) hq hj0 (c_Form_withoutSign l A ad j0 hj0 a1) kB_Form_withoutSign wd_116 ⟨rfl, rfl, Nat.le_of_ble_eq_true rfl, Nat.le_of_ble_eq_true rfl⟩ rfl hl.1 rfl (Nat.le_of_ble_eq_true rfl) d_Floats_asWhole_16 ⟨Nat.zero_le _, Nat.zero_le _⟩ ?_
    refine lv_lneg hx hb d_Floats_asWhole_19 ?_
    exact rl_ hx hb hr hk (by rw [q_Floats_asWhole, if_neg c_1]) d_Floats_asWhole_20
  · rw [lg_cmp_eq] at c_1
    refine lv_lload_n hx hb d_Floats_asWhole_10 rfl (lv_at hl 1 rfl) ?_
    refine lv_goto (tgt := 20) hx hb d_Floats_asWhole_11 (by decide) ?_
    exact rl_ hx hb hr hk (by rw [q_Floats_asWhole, if_pos c_1]) d_Floats_asWhole_20
def q_Floats_test (a0 : Int32) (j1 : Nat) (a2 : Int64) (a3 : Int64) : Int32 :=
  if (q_Form_isNoNumber j1 a2) = 0 then
    if (q_Form_isNoNumber j1 a3) = 0 then
      if a0 = (91 : Int32) then
        if (q_Floats_asWhole j1 a2) = (q_Floats_asWhole j1 a3) then
          (1 : Int32)
        else
          (0 : Int32)
      else
        if a0 = (92 : Int32) then
          if (q_Floats_asWhole j1 a2) = (q_Floats_asWhole j1 a3) then
            (0 : Int32)
          else
            (1 : Int32)
        else
          if a0 = (93 : Int32) then
            if (q_Floats_asWhole j1 a3) ≤ (q_Floats_asWhole j1 a2) then
              (0 : Int32)
            else
              (1 : Int32)
          else
            if a0 = (94 : Int32) then
              if (q_Floats_asWhole j1 a2) ≤ (q_Floats_asWhole j1 a3) then
                (0 : Int32)
              else
                (1 : Int32)
            else
              if a0 = (95 : Int32) then
                if (q_Floats_asWhole j1 a3) < (q_Floats_asWhole j1 a2) then
                  (0 : Int32)
                else
                  (1 : Int32)
              else
                if (q_Floats_asWhole j1 a2) < (q_Floats_asWhole j1 a3) then
                  (0 : Int32)
                else
                  (1 : Int32)
    else
      if a0 = (92 : Int32) then
        (1 : Int32)
      else
        (0 : Int32)
  else
    if a0 = (92 : Int32) then
      (1 : Int32)
    else
      (0 : Int32)
theorem kB_Floats_test : SB y_Floats_test b_Floats_test 10 (some .boolean) 4 := ⟨wd_122, wd_123, wd_119, by decide +kernel⟩
set_option maxHeartbeats 4000000 in
set_option maxRecDepth 100000 in
theorem c_Floats_test (l : Launch) (A : Nat → Prop) (ad : Nat → Nat) (a0 : Int32) (j1 : Nat) (hj1 : j1 < 2) (a2 : Int64) (a3 : Int64) : Met l y_Floats_test (Cond.code y_Floats_test b_Floats_test 10 (some .boolean) :: BT) ({ frames := 2, cells := 0, slots := 0, locals := 44 }) (PC A ad [.int a0, .ref (ad j1), .long a2, .long a3]) (vp_Si (fun r => r = q_Floats_test a0 j1 a2 a3)) 0 0 (fun _ => False) := by
  refine pm_ (by decide +kernel) (Nat.le_of_ble_eq_true rfl) ?_
  intro p e s m below meth c hq hr hk ls hl
  have hx := hq.1
  have hb := hq.2.1
  have hts := hq.2.2.2.2.1
  have hl : lv_has ls 10 [(0, .int a0), (1, .ref (ad j1)), (2, .long a2), (4, .long a3)] := hl
  refine lv_aload_n hx hb d_Floats_test_0 rfl (lv_at hl 1 rfl) ?_
  refine lv_lload_n hx hb d_Floats_test_1 rfl (lv_at hl 2 rfl) ?_
  refine vi_ (As := [.long a2]) (rest := []) hq hj1 (c_Form_isNoNumber l A ad j1 hj1 a2) kB_Form_isNoNumber wd_120 ⟨rfl, rfl, Nat.le_of_ble_eq_true rfl, Nat.le_of_ble_eq_true rfl⟩ rfl hl.1 rfl (Nat.le_of_ble_eq_true rfl) d_Floats_test_2 ⟨Nat.zero_le _, Nat.zero_le _⟩ ?_
  refine lv_if_ne (tgt := 17) hx hb d_Floats_test_5 (by decide) (fun c_1 => ?_) (fun c_1 => ?_)
  · refine lv_iload_n hx hb d_Floats_test_17 rfl (lv_at hl 0 rfl) ?_
    refine lv_bipush (v := (92 : Int32)) hx hb d_Floats_test_18 (by decide) ?_
    refine lv_icmp_ne (tgt := 27) hx hb d_Floats_test_20 (by decide) (fun c_2 => ?_) (fun c_2 => ?_)
    · refine lv_iconst (v := (0 : Int32)) hx hb d_Floats_test_27 (by decide) ?_
      exact rz_ hx hb hr hk (by decide) (by rw [q_Floats_test, if_neg c_1, if_neg c_2]) d_Floats_test_28
    · refine lv_iconst (v := (1 : Int32)) hx hb d_Floats_test_23 (by decide) ?_
      refine lv_goto (tgt := 28) hx hb d_Floats_test_24 (by decide) ?_
      exact rz_ hx hb hr hk (by decide) (by rw [q_Floats_test, if_neg c_1, if_pos c_2]) d_Floats_test_28
  · refine lv_aload_n hx hb d_Floats_test_8 rfl (lv_at hl 1 rfl) ?_
    refine lv_lload hx hb d_Floats_test_9 (lv_at hl 3 rfl) ?_
    refine vi_ (As := [.long a3]) (rest := []) hq hj1 (c_Form_isNoNumber l A ad j1 hj1 a3) kB_Form_isNoNumber wd_120 ⟨rfl, rfl, Nat.le_of_ble_eq_true rfl, Nat.le_of_ble_eq_true rfl⟩ rfl hl.1 rfl (Nat.le_of_ble_eq_true rfl) d_Floats_test_11 ⟨Nat.zero_le _, Nat.zero_le _⟩ ?_
    refine lv_if_eq (tgt := 29) hx hb d_Floats_test_14 (by decide) (fun c_3 => ?_) (fun c_3 => ?_)
    · refine lv_aload_n hx hb d_Floats_test_29 rfl (lv_at hl 1 rfl) ?_
      refine lv_lload_n hx hb d_Floats_test_30 rfl (lv_at hl 2 rfl) ?_
      refine sl_ (As := [.ref (ad j1), .long a2]) (rest := []) hq (c_Floats_asWhole l A ad j1 hj1 a2) kB_Floats_asWhole wd_121 ⟨rfl, rfl, Nat.le_of_ble_eq_true rfl, Nat.le_of_ble_eq_true rfl⟩ rfl hl.1 rfl (Nat.le_of_ble_eq_true rfl) d_Floats_test_31 ⟨Nat.zero_le _, Nat.zero_le _⟩ ?_
      refine lv_lstore (lv' := [(6, .long (q_Floats_asWhole j1 a2)), (0, .int a0), (1, .ref (ad j1)), (2, .long a2), (4, .long a3)]) hx hb d_Floats_test_34 hl (by decide) rfl (fun ls hl => ?_)
      refine lv_aload_n hx hb d_Floats_test_36 rfl (lv_at hl 2 rfl) ?_
      refine lv_lload hx hb d_Floats_test_37 (lv_at hl 4 rfl) ?_
      refine sl_ (As := [.ref (ad j1), .long a3]) (rest := []) hq (c_Floats_asWhole l A ad j1 hj1 a3) kB_Floats_asWhole wd_121 ⟨rfl, rfl, Nat.le_of_ble_eq_true rfl, Nat.le_of_ble_eq_true rfl⟩ rfl hl.1 rfl (Nat.le_of_ble_eq_true rfl) d_Floats_test_39 ⟨Nat.zero_le _, Nat.zero_le _⟩ ?_
      refine lv_lstore (lv' := [(8, .long (q_Floats_asWhole j1 a3)), (6, .long (q_Floats_asWhole j1 a2)), (0, .int a0), (1, .ref (ad j1)), (2, .long a2), (4, .long a3)]) hx hb d_Floats_test_42 hl (by decide) rfl (fun ls hl => ?_)
      refine lv_iload_n hx hb d_Floats_test_44 rfl (lv_at hl 2 rfl) ?_
      by_cases c_4 : a0 = (91 : Int32)
      · refine lv_tableIn (tgt := 80) hx hb d_Floats_test_45 (by rw [c_4]; decide) (by rw [c_4]; decide) (by rw [c_4]; rfl) (by decide) ?_
        refine lv_lload hx hb d_Floats_test_80 (lv_at hl 1 rfl) ?_
        refine lv_lload hx hb d_Floats_test_82 (lv_at hl 0 rfl) ?_
        refine W.lcmp hx hb d_Floats_test_84 ?_
        refine lv_if_ne (tgt := 92) hx hb d_Floats_test_85 (by decide) (fun c_5 => ?_) (fun c_5 => ?_)
        · rw [lg_cmp_eq] at c_5
          refine lv_iconst (v := (0 : Int32)) hx hb d_Floats_test_92 (by decide) ?_
          exact rz_ hx hb hr hk (by decide) (by rw [q_Floats_test, if_pos c_1, if_pos c_3, if_pos c_4, if_neg c_5]) d_Floats_test_93
        · rw [lg_cmp_eq] at c_5
          refine lv_iconst (v := (1 : Int32)) hx hb d_Floats_test_88 (by decide) ?_
          refine lv_goto (tgt := 93) hx hb d_Floats_test_89 (by decide) ?_
          exact rz_ hx hb hr hk (by decide) (by rw [q_Floats_test, if_pos c_1, if_pos c_3, if_pos c_4, if_pos c_5]) d_Floats_test_93
      by_cases c_6 : a0 = (92 : Int32)
      · refine lv_tableIn (tgt := 94) hx hb d_Floats_test_45 (by rw [c_6]; decide) (by rw [c_6]; decide) (by rw [c_6]; rfl) (by decide) ?_
        refine lv_lload hx hb d_Floats_test_94 (lv_at hl 1 rfl) ?_
        refine lv_lload hx hb d_Floats_test_96 (lv_at hl 0 rfl) ?_
        refine W.lcmp hx hb d_Floats_test_98 ?_
        refine lv_if_eq (tgt := 106) hx hb d_Floats_test_99 (by decide) (fun c_7 => ?_) (fun c_7 => ?_)
        · rw [lg_cmp_eq] at c_7
          refine lv_iconst (v := (0 : Int32)) hx hb d_Floats_test_106 (by decide) ?_
          exact rz_ hx hb hr hk (by decide) (by rw [q_Floats_test, if_pos c_1, if_pos c_3, if_neg c_4, if_pos c_6, if_pos c_7]) d_Floats_test_107
        · rw [lg_cmp_eq] at c_7
          refine lv_iconst (v := (1 : Int32)) hx hb d_Floats_test_102 (by decide) ?_
          refine lv_goto (tgt := 107) hx hb d_Floats_test_103 (by decide) ?_
          exact rz_ hx hb hr hk (by decide) (by rw [q_Floats_test, if_pos c_1, if_pos c_3, if_neg c_4, if_pos c_6, if_neg c_7]) d_Floats_test_107
      by_cases c_8 : a0 = (93 : Int32)
      · refine lv_tableIn (tgt := 108) hx hb d_Floats_test_45 (by rw [c_8]; decide) (by rw [c_8]; decide) (by rw [c_8]; rfl) (by decide) ?_
        refine lv_lload hx hb d_Floats_test_108 (lv_at hl 1 rfl) ?_
        refine lv_lload hx hb d_Floats_test_110 (lv_at hl 0 rfl) ?_
        refine W.lcmp hx hb d_Floats_test_112 ?_
        refine lv_if_ge (tgt := 120) hx hb d_Floats_test_113 (by decide) (fun c_9 => ?_) (fun c_9 => ?_)
        · rw [lg_cmp_ge] at c_9
          refine lv_iconst (v := (0 : Int32)) hx hb d_Floats_test_120 (by decide) ?_
          exact rz_ hx hb hr hk (by decide) (by rw [q_Floats_test, if_pos c_1, if_pos c_3, if_neg c_4, if_neg c_6, if_pos c_8, if_pos c_9]) d_Floats_test_121
        · rw [lg_cmp_ge] at c_9
          refine lv_iconst (v := (1 : Int32)) hx hb d_Floats_test_116 (by decide) ?_
          refine lv_goto (tgt := 121) hx hb d_Floats_test_117 (by decide) ?_
          exact rz_ hx hb hr hk (by decide) (by rw [q_Floats_test, if_pos c_1, if_pos c_3, if_neg c_4, if_neg c_6, if_pos c_8, if_neg c_9]) d_Floats_test_121
      by_cases c_10 : a0 = (94 : Int32)
      · refine lv_tableIn (tgt := 122) hx hb d_Floats_test_45 (by rw [c_10]; decide) (by rw [c_10]; decide) (by rw [c_10]; rfl) (by decide) ?_
        refine lv_lload hx hb d_Floats_test_122 (lv_at hl 1 rfl) ?_
        refine lv_lload hx hb d_Floats_test_124 (lv_at hl 0 rfl) ?_
        refine W.lcmp hx hb d_Floats_test_126 ?_
        refine lv_if_le (tgt := 134) hx hb d_Floats_test_127 (by decide) (fun c_11 => ?_) (fun c_11 => ?_)
        · rw [lg_cmp_le] at c_11
          refine lv_iconst (v := (0 : Int32)) hx hb d_Floats_test_134 (by decide) ?_
          exact rz_ hx hb hr hk (by decide) (by rw [q_Floats_test, if_pos c_1, if_pos c_3, if_neg c_4, if_neg c_6, if_neg c_8, if_pos c_10, if_pos c_11]) d_Floats_test_135
        · rw [lg_cmp_le] at c_11
          refine lv_iconst (v := (1 : Int32)) hx hb d_Floats_test_130 (by decide) ?_
          refine lv_goto (tgt := 135) hx hb d_Floats_test_131 (by decide) ?_
          exact rz_ hx hb hr hk (by decide) (by rw [q_Floats_test, if_pos c_1, if_pos c_3, if_neg c_4, if_neg c_6, if_neg c_8, if_pos c_10, if_neg c_11]) d_Floats_test_135
      by_cases c_12 : a0 = (95 : Int32)
      · refine lv_tableIn (tgt := 136) hx hb d_Floats_test_45 (by rw [c_12]; decide) (by rw [c_12]; decide) (by rw [c_12]; rfl) (by decide) ?_
        refine lv_lload hx hb d_Floats_test_136 (lv_at hl 1 rfl) ?_
        refine lv_lload hx hb d_Floats_test_138 (lv_at hl 0 rfl) ?_
        refine W.lcmp hx hb d_Floats_test_140 ?_
        refine lv_if_gt (tgt := 148) hx hb d_Floats_test_141 (by decide) (fun c_13 => ?_) (fun c_13 => ?_)
        · rw [lg_cmp_gt] at c_13
          refine lv_iconst (v := (0 : Int32)) hx hb d_Floats_test_148 (by decide) ?_
          exact rz_ hx hb hr hk (by decide) (by rw [q_Floats_test, if_pos c_1, if_pos c_3, if_neg c_4, if_neg c_6, if_neg c_8, if_neg c_10, if_pos c_12, if_pos c_13]) d_Floats_test_149
        · rw [lg_cmp_gt] at c_13
          refine lv_iconst (v := (1 : Int32)) hx hb d_Floats_test_144 (by decide) ?_
          refine lv_goto (tgt := 149) hx hb d_Floats_test_145 (by decide) ?_
          exact rz_ hx hb hr hk (by decide) (by rw [q_Floats_test, if_pos c_1, if_pos c_3, if_neg c_4, if_neg c_6, if_neg c_8, if_neg c_10, if_pos c_12, if_neg c_13]) d_Floats_test_149
      have hsw : a0.toInt < 91 ∨ 95 < a0.toInt := by
        have := lv_neT c_4 (a := 91) (by decide)
        have := lv_neT c_6 (a := 92) (by decide)
        have := lv_neT c_8 (a := 93) (by decide)
        have := lv_neT c_10 (a := 94) (by decide)
        have := lv_neT c_12 (a := 95) (by decide)
        omega
      refine lv_tableOut (tgt := 150) hx hb d_Floats_test_45 hsw (by decide) ?_
      refine lv_lload hx hb d_Floats_test_150 (lv_at hl 1 rfl) ?_
      refine lv_lload hx hb d_Floats_test_152 (lv_at hl 0 rfl) ?_
      refine W.lcmp hx hb d_Floats_test_154 ?_
      refine lv_if_lt (tgt := 162) hx hb d_Floats_test_155 (by decide) (fun c_14 => ?_) (fun c_14 => ?_)
      · rw [lg_cmp_lt] at c_14
        refine lv_iconst (v := (0 : Int32)) hx hb d_Floats_test_162 (by decide) ?_
        exact rz_ hx hb hr hk (by decide) (by rw [q_Floats_test, if_pos c_1, if_pos c_3, if_neg c_4, if_neg c_6, if_neg c_8, if_neg c_10, if_neg c_12, if_pos c_14]) d_Floats_test_163
      · rw [lg_cmp_lt] at c_14
        refine lv_iconst (v := (1 : Int32)) hx hb d_Floats_test_158 (by decide) ?_
        refine lv_goto (tgt := 163) hx hb d_Floats_test_159 (by decide) ?_
        exact rz_ hx hb hr hk (by decide) (by rw [q_Floats_test, if_pos c_1, if_pos c_3, if_neg c_4, if_neg c_6, if_neg c_8, if_neg c_10, if_neg c_12, if_neg c_14]) d_Floats_test_163
    · refine lv_iload_n hx hb d_Floats_test_17 rfl (lv_at hl 0 rfl) ?_
      refine lv_bipush (v := (92 : Int32)) hx hb d_Floats_test_18 (by decide) ?_
      refine lv_icmp_ne (tgt := 27) hx hb d_Floats_test_20 (by decide) (fun c_15 => ?_) (fun c_15 => ?_)
      · refine lv_iconst (v := (0 : Int32)) hx hb d_Floats_test_27 (by decide) ?_
        exact rz_ hx hb hr hk (by decide) (by rw [q_Floats_test, if_pos c_1, if_neg c_3, if_neg c_15]) d_Floats_test_28
      · refine lv_iconst (v := (1 : Int32)) hx hb d_Floats_test_23 (by decide) ?_
        refine lv_goto (tgt := 28) hx hb d_Floats_test_24 (by decide) ?_
        exact rz_ hx hb hr hk (by decide) (by rw [q_Floats_test, if_pos c_1, if_neg c_3, if_pos c_15]) d_Floats_test_28
def q_Floats_isBelow (j0 : Nat) (a1 : Int64) (a2 : Int64) : Int32 :=
  if (q_Form_isZero j0 a1) = 0 then
    if (q_Floats_asWhole j0 a2) ≤ (q_Floats_asWhole j0 a1) then
      (0 : Int32)
    else
      (1 : Int32)
  else
    if (q_Form_isZero j0 a2) = 0 then
      if (q_Floats_asWhole j0 a2) ≤ (q_Floats_asWhole j0 a1) then
        (0 : Int32)
      else
        (1 : Int32)
    else
      if (q_Form_sign j0 a1) = (0 : Int64) then
        (0 : Int32)
      else
        if (q_Form_sign j0 a2) = (0 : Int64) then
          (1 : Int32)
        else
          (0 : Int32)
theorem kB_Floats_isBelow : SB y_Floats_isBelow b_Floats_isBelow 5 (some .boolean) 3 := ⟨wd_125, wd_126, wd_119, by decide +kernel⟩
set_option maxHeartbeats 4000000 in
set_option maxRecDepth 100000 in
theorem c_Floats_isBelow (l : Launch) (A : Nat → Prop) (ad : Nat → Nat) (j0 : Nat) (hj0 : j0 < 2) (a1 : Int64) (a2 : Int64) : Met l y_Floats_isBelow (Cond.code y_Floats_isBelow b_Floats_isBelow 5 (some .boolean) :: BT) ({ frames := 2, cells := 0, slots := 0, locals := 44 }) (PC A ad [.ref (ad j0), .long a1, .long a2]) (vp_Si (fun r => r = q_Floats_isBelow j0 a1 a2)) 0 0 (fun _ => False) := by
  refine pm_ (by decide +kernel) (Nat.le_of_ble_eq_true rfl) ?_
  intro p e s m below meth c hq hr hk ls hl
  have hx := hq.1
  have hb := hq.2.1
  have hts := hq.2.2.2.2.1
  have hl : lv_has ls 5 [(0, .ref (ad j0)), (1, .long a1), (3, .long a2)] := hl
  refine lv_aload_n hx hb d_Floats_isBelow_0 rfl (lv_at hl 0 rfl) ?_
  refine lv_lload_n hx hb d_Floats_isBelow_1 rfl (lv_at hl 1 rfl) ?_
  refine vi_ (As := [.long a1]) (rest := []) hq hj0 (c_Form_isZero l A ad j0 hj0 a1) kB_Form_isZero wd_124 ⟨rfl, rfl, Nat.le_of_ble_eq_true rfl, Nat.le_of_ble_eq_true rfl⟩ rfl hl.1 rfl (Nat.le_of_ble_eq_true rfl) d_Floats_isBelow_2 ⟨Nat.zero_le _, Nat.zero_le _⟩ ?_
  refine lv_if_eq (tgt := 42) hx hb d_Floats_isBelow_5 (by decide) (fun c_1 => ?_) (fun c_1 => ?_)
  · refine lv_aload_n hx hb d_Floats_isBelow_42 rfl (lv_at hl 0 rfl) ?_
    refine lv_lload_n hx hb d_Floats_isBelow_43 rfl (lv_at hl 1 rfl) ?_
    refine sl_ (As := [.ref (ad j0), .long a1]) (rest := []) hq (c_Floats_asWhole l A ad j0 hj0 a1) kB_Floats_asWhole wd_121 ⟨rfl, rfl, Nat.le_of_ble_eq_true rfl, Nat.le_of_ble_eq_true rfl⟩ rfl hl.1 rfl (Nat.le_of_ble_eq_true rfl) d_Floats_isBelow_44 ⟨Nat.zero_le _, Nat.zero_le _⟩ ?_
    refine lv_aload_n hx hb d_Floats_isBelow_47 rfl (lv_at hl 0 rfl) ?_
    refine lv_lload_n hx hb d_Floats_isBelow_48 rfl (lv_at hl 2 rfl) ?_
    refine sl_ (As := [.ref (ad j0), .long a2]) (rest := [.long (q_Floats_asWhole j0 a1)]) hq (c_Floats_asWhole l A ad j0 hj0 a2) kB_Floats_asWhole wd_121 ⟨rfl, rfl, Nat.le_of_ble_eq_true rfl, Nat.le_of_ble_eq_true rfl⟩ rfl hl.1 rfl (Nat.le_of_ble_eq_true rfl) d_Floats_isBelow_49 ⟨Nat.zero_le _, Nat.zero_le _⟩ ?_
    refine W.lcmp hx hb d_Floats_isBelow_52 ?_
    refine lv_if_ge (tgt := 60) hx hb d_Floats_isBelow_53 (by decide) (fun c_2 => ?_) (fun c_2 => ?_)
    · rw [lg_cmp_ge] at c_2
      refine lv_iconst (v := (0 : Int32)) hx hb d_Floats_isBelow_60 (by decide) ?_
      exact rz_ hx hb hr hk (by decide) (by rw [q_Floats_isBelow, if_pos c_1, if_pos c_2]) d_Floats_isBelow_61
    · rw [lg_cmp_ge] at c_2
      refine lv_iconst (v := (1 : Int32)) hx hb d_Floats_isBelow_56 (by decide) ?_
      refine lv_goto (tgt := 61) hx hb d_Floats_isBelow_57 (by decide) ?_
      exact rz_ hx hb hr hk (by decide) (by rw [q_Floats_isBelow, if_pos c_1, if_neg c_2]) d_Floats_isBelow_61
  · refine lv_aload_n hx hb d_Floats_isBelow_8 rfl (lv_at hl 0 rfl) ?_
    refine lv_lload_n hx hb d_Floats_isBelow_9 rfl (lv_at hl 2 rfl) ?_
    refine vi_ (As := [.long a2]) (rest := []) hq hj0 (c_Form_isZero l A ad j0 hj0 a2) kB_Form_isZero wd_124 ⟨rfl, rfl, Nat.le_of_ble_eq_true rfl, Nat.le_of_ble_eq_true rfl⟩ rfl hl.1 rfl (Nat.le_of_ble_eq_true rfl) d_Floats_isBelow_10 ⟨Nat.zero_le _, Nat.zero_le _⟩ ?_
    refine lv_if_eq (tgt := 42) hx hb d_Floats_isBelow_13 (by decide) (fun c_3 => ?_) (fun c_3 => ?_)
    · refine lv_aload_n hx hb d_Floats_isBelow_42 rfl (lv_at hl 0 rfl) ?_
      refine lv_lload_n hx hb d_Floats_isBelow_43 rfl (lv_at hl 1 rfl) ?_
      refine sl_ (As := [.ref (ad j0), .long a1]) (rest := []) hq (c_Floats_asWhole l A ad j0 hj0 a1) kB_Floats_asWhole wd_121 ⟨rfl, rfl, Nat.le_of_ble_eq_true rfl, Nat.le_of_ble_eq_true rfl⟩ rfl hl.1 rfl (Nat.le_of_ble_eq_true rfl) d_Floats_isBelow_44 ⟨Nat.zero_le _, Nat.zero_le _⟩ ?_
      refine lv_aload_n hx hb d_Floats_isBelow_47 rfl (lv_at hl 0 rfl) ?_
      refine lv_lload_n hx hb d_Floats_isBelow_48 rfl (lv_at hl 2 rfl) ?_
      refine sl_ (As := [.ref (ad j0), .long a2]) (rest := [.long (q_Floats_asWhole j0 a1)]) hq (c_Floats_asWhole l A ad j0 hj0 a2) kB_Floats_asWhole wd_121 ⟨rfl, rfl, Nat.le_of_ble_eq_true rfl, Nat.le_of_ble_eq_true rfl⟩ rfl hl.1 rfl (Nat.le_of_ble_eq_true rfl) d_Floats_isBelow_49 ⟨Nat.zero_le _, Nat.zero_le _⟩ ?_
      refine W.lcmp hx hb d_Floats_isBelow_52 ?_
      refine lv_if_ge (tgt := 60) hx hb d_Floats_isBelow_53 (by decide) (fun c_4 => ?_) (fun c_4 => ?_)
      · rw [lg_cmp_ge] at c_4
        refine lv_iconst (v := (0 : Int32)) hx hb d_Floats_isBelow_60 (by decide) ?_
        exact rz_ hx hb hr hk (by decide) (by rw [q_Floats_isBelow, if_neg c_1, if_pos c_3, if_pos c_4]) d_Floats_isBelow_61
      · rw [lg_cmp_ge] at c_4
        refine lv_iconst (v := (1 : Int32)) hx hb d_Floats_isBelow_56 (by decide) ?_
        refine lv_goto (tgt := 61) hx hb d_Floats_isBelow_57 (by decide) ?_
        exact rz_ hx hb hr hk (by decide) (by rw [q_Floats_isBelow, if_neg c_1, if_pos c_3, if_neg c_4]) d_Floats_isBelow_61
    · refine lv_aload_n hx hb d_Floats_isBelow_16 rfl (lv_at hl 0 rfl) ?_
      refine lv_lload_n hx hb d_Floats_isBelow_17 rfl (lv_at hl 1 rfl) ?_
      refine vl_ (As := [.long a1]) (rest := []) hq hj0 (c_Form_sign l A ad j0 hj0 a1) kB_Form_sign wd_115 ⟨rfl, rfl, Nat.le_of_ble_eq_true rfl, Nat.le_of_ble_eq_true rfl⟩ rfl hl.1 rfl (Nat.le_of_ble_eq_true rfl) d_Floats_isBelow_18 ⟨Nat.zero_le _, Nat.zero_le _⟩ ?_
      refine lv_lconst (v := (0 : Int64)) hx hb d_Floats_isBelow_21 (by decide) ?_
      refine W.lcmp hx hb d_Floats_isBelow_22 ?_
      refine lv_if_eq (tgt := 40) hx hb d_Floats_isBelow_23 (by decide) (fun c_5 => ?_) (fun c_5 => ?_)
      · rw [lg_cmp_eq] at c_5
        refine lv_iconst (v := (0 : Int32)) hx hb d_Floats_isBelow_40 (by decide) ?_
        exact rz_ hx hb hr hk (by decide) (by rw [q_Floats_isBelow, if_neg c_1, if_neg c_3, if_pos c_5]) d_Floats_isBelow_41
      · rw [lg_cmp_eq] at c_5
        refine lv_aload_n hx hb d_Floats_isBelow_26 rfl (lv_at hl 0 rfl) ?_
        refine lv_lload_n hx hb d_Floats_isBelow_27 rfl (lv_at hl 2 rfl) ?_
        refine vl_ (As := [.long a2]) (rest := []) hq hj0 (c_Form_sign l A ad j0 hj0 a2) kB_Form_sign wd_115 ⟨rfl, rfl, Nat.le_of_ble_eq_true rfl, Nat.le_of_ble_eq_true rfl⟩ rfl hl.1 rfl (Nat.le_of_ble_eq_true rfl) d_Floats_isBelow_28 ⟨Nat.zero_le _, Nat.zero_le _⟩ ?_
        refine lv_lconst (v := (0 : Int64)) hx hb d_Floats_isBelow_31 (by decide) ?_
        refine W.lcmp hx hb d_Floats_isBelow_32 ?_
        refine lv_if_ne (tgt := 40) hx hb d_Floats_isBelow_33 (by decide) (fun c_6 => ?_) (fun c_6 => ?_)
        · rw [lg_cmp_eq] at c_6
          refine lv_iconst (v := (0 : Int32)) hx hb d_Floats_isBelow_40 (by decide) ?_
          exact rz_ hx hb hr hk (by decide) (by rw [q_Floats_isBelow, if_neg c_1, if_neg c_3, if_neg c_5, if_neg c_6]) d_Floats_isBelow_41
        · rw [lg_cmp_eq] at c_6
          refine lv_iconst (v := (1 : Int32)) hx hb d_Floats_isBelow_36 (by decide) ?_
          refine lv_goto (tgt := 41) hx hb d_Floats_isBelow_37 (by decide) ?_
          exact rz_ hx hb hr hk (by decide) (by rw [q_Floats_isBelow, if_neg c_1, if_neg c_3, if_neg c_5, if_pos c_6]) d_Floats_isBelow_41
def q_Floats_finiteSum (j0 : Nat) (a1 : Int64) (a2 : Int64) : Int64 :=
  if (q_Form_sign j0 a1) = (q_Form_sign j0 a2) then
    if ((shl_ (q_Form_significand j0 a1) (10 : Int32)) + (q_Bits_movedDown (shl_ (q_Form_significand j0 a2) (10 : Int32)) ((q_Form_scale j0 a1) - (q_Form_scale j0 a2)))) = (0 : Int64) then
      (q_Form_sign j0 (a1 &&& a2))
    else
      (q_Form_rounded j0 (q_Form_sign j0 a1) ((shl_ (q_Form_significand j0 a1) (10 : Int32)) + (q_Bits_movedDown (shl_ (q_Form_significand j0 a2) (10 : Int32)) ((q_Form_scale j0 a1) - (q_Form_scale j0 a2)))) ((q_Form_scale j0 a1) - (10 : Int32)))
  else
    if ((shl_ (q_Form_significand j0 a1) (10 : Int32)) - (q_Bits_movedDown (shl_ (q_Form_significand j0 a2) (10 : Int32)) ((q_Form_scale j0 a1) - (q_Form_scale j0 a2)))) = (0 : Int64) then
      (q_Form_sign j0 (a1 &&& a2))
    else
      (q_Form_rounded j0 (q_Form_sign j0 a1) ((shl_ (q_Form_significand j0 a1) (10 : Int32)) - (q_Bits_movedDown (shl_ (q_Form_significand j0 a2) (10 : Int32)) ((q_Form_scale j0 a1) - (q_Form_scale j0 a2)))) ((q_Form_scale j0 a1) - (10 : Int32)))
theorem kB_Floats_finiteSum : SB y_Floats_finiteSum b_Floats_finiteSum 12 (some .long) 3 := ⟨wd_131, wd_132, wd_119, by decide +kernel⟩
set_option maxHeartbeats 4000000 in
set_option maxRecDepth 100000 in
theorem c_Floats_finiteSum (l : Launch) (A : Nat → Prop) (ad : Nat → Nat) (j0 : Nat) (hj0 : j0 < 2) (a1 : Int64) (a2 : Int64) : Met l y_Floats_finiteSum (Cond.code y_Floats_finiteSum b_Floats_finiteSum 12 (some .long) :: BT) ({ frames := 3, cells := 0, slots := 0, locals := 78 }) (PC A ad [.ref (ad j0), .long a1, .long a2]) (vp_Sl (fun r => r = q_Floats_finiteSum j0 a1 a2)) 0 0 (fun _ => False) := by
  refine pm_ (by decide +kernel) (Nat.le_of_ble_eq_true rfl) ?_
  intro p e s m below meth c hq hr hk ls hl
  have hx := hq.1
  have hb := hq.2.1
  have hts := hq.2.2.2.2.1
  have hl : lv_has ls 12 [(0, .ref (ad j0)), (1, .long a1), (3, .long a2)] := hl
  refine lv_aload_n hx hb d_Floats_finiteSum_0 rfl (lv_at hl 0 rfl) ?_
  refine lv_lload_n hx hb d_Floats_finiteSum_1 rfl (lv_at hl 1 rfl) ?_
  refine vi_ (As := [.long a1]) (rest := []) hq hj0 (c_Form_scale l A ad j0 hj0 a1) kB_Form_scale wd_127 ⟨rfl, rfl, Nat.le_of_ble_eq_true rfl, Nat.le_of_ble_eq_true rfl⟩ rfl hl.1 rfl (Nat.le_of_ble_eq_true rfl) d_Floats_finiteSum_2 ⟨Nat.zero_le _, Nat.zero_le _⟩ ?_
  refine lv_istore (lv' := [(5, .int (q_Form_scale j0 a1)), (0, .ref (ad j0)), (1, .long a1), (3, .long a2)]) hx hb d_Floats_finiteSum_5 hl (by decide) rfl (fun ls hl => ?_)
  refine lv_aload_n hx hb d_Floats_finiteSum_7 rfl (lv_at hl 1 rfl) ?_
  refine lv_lload_n hx hb d_Floats_finiteSum_8 rfl (lv_at hl 2 rfl) ?_
  refine vl_ (As := [.long a1]) (rest := []) hq hj0 (c_Form_significand l A ad j0 hj0 a1) kB_Form_significand wd_128 ⟨rfl, rfl, Nat.le_of_ble_eq_true rfl, Nat.le_of_ble_eq_true rfl⟩ rfl hl.1 rfl (Nat.le_of_ble_eq_true rfl) d_Floats_finiteSum_9 ⟨Nat.zero_le _, Nat.zero_le _⟩ ?_
  refine lv_bipush (v := (10 : Int32)) hx hb d_Floats_finiteSum_12 (by decide) ?_
  refine lv_lshl (v := (shl_ (q_Form_significand j0 a1) (10 : Int32))) hx hb d_Floats_finiteSum_14 rfl ?_
  refine lv_lstore (lv' := [(6, .long (shl_ (q_Form_significand j0 a1) (10 : Int32))), (5, .int (q_Form_scale j0 a1)), (0, .ref (ad j0)), (1, .long a1), (3, .long a2)]) hx hb d_Floats_finiteSum_15 hl (by decide) rfl (fun ls hl => ?_)
  refine lv_aload_n hx hb d_Floats_finiteSum_17 rfl (lv_at hl 2 rfl) ?_
  refine lv_lload_n hx hb d_Floats_finiteSum_18 rfl (lv_at hl 4 rfl) ?_
  refine vl_ (As := [.long a2]) (rest := []) hq hj0 (c_Form_significand l A ad j0 hj0 a2) kB_Form_significand wd_128 ⟨rfl, rfl, Nat.le_of_ble_eq_true rfl, Nat.le_of_ble_eq_true rfl⟩ rfl hl.1 rfl (Nat.le_of_ble_eq_true rfl) d_Floats_finiteSum_19 ⟨Nat.zero_le _, Nat.zero_le _⟩ ?_
  refine lv_bipush (v := (10 : Int32)) hx hb d_Floats_finiteSum_22 (by decide) ?_
  refine lv_lshl (v := (shl_ (q_Form_significand j0 a2) (10 : Int32))) hx hb d_Floats_finiteSum_24 rfl ?_
  refine lv_iload hx hb d_Floats_finiteSum_25 (lv_at hl 1 rfl) ?_
  refine lv_aload_n hx hb d_Floats_finiteSum_27 rfl (lv_at hl 2 rfl) ?_
  refine lv_lload_n hx hb d_Floats_finiteSum_28 rfl (lv_at hl 4 rfl) ?_
  refine vi_ (As := [.long a2]) (rest := [.int (q_Form_scale j0 a1), .long (shl_ (q_Form_significand j0 a2) (10 : Int32))]) hq hj0 (c_Form_scale l A ad j0 hj0 a2) kB_Form_scale wd_127 ⟨rfl, rfl, Nat.le_of_ble_eq_true rfl, Nat.le_of_ble_eq_true rfl⟩ rfl hl.1 rfl (Nat.le_of_ble_eq_true rfl) d_Floats_finiteSum_29 ⟨Nat.zero_le _, Nat.zero_le _⟩ ?_
  refine lv_isub hx hb d_Floats_finiteSum_32 ?_
  refine sl_ (As := [.long (shl_ (q_Form_significand j0 a2) (10 : Int32)), .int ((q_Form_scale j0 a1) - (q_Form_scale j0 a2))]) (rest := []) hq (c_Bits_movedDown l A ad (shl_ (q_Form_significand j0 a2) (10 : Int32)) ((q_Form_scale j0 a1) - (q_Form_scale j0 a2))) kB_Bits_movedDown wd_129 ⟨rfl, rfl, Nat.le_of_ble_eq_true rfl, Nat.le_of_ble_eq_true rfl⟩ rfl hl.1 rfl (Nat.le_of_ble_eq_true rfl) d_Floats_finiteSum_33 ⟨Nat.zero_le _, Nat.zero_le _⟩ ?_
  refine lv_lstore (lv' := [(8, .long (q_Bits_movedDown (shl_ (q_Form_significand j0 a2) (10 : Int32)) ((q_Form_scale j0 a1) - (q_Form_scale j0 a2)))), (6, .long (shl_ (q_Form_significand j0 a1) (10 : Int32))), (5, .int (q_Form_scale j0 a1)), (0, .ref (ad j0)), (1, .long a1), (3, .long a2)]) hx hb d_Floats_finiteSum_36 hl (by decide) rfl (fun ls hl => ?_)
  refine lv_aload_n hx hb d_Floats_finiteSum_38 rfl (lv_at hl 3 rfl) ?_
  refine lv_lload_n hx hb d_Floats_finiteSum_39 rfl (lv_at hl 4 rfl) ?_
  refine vl_ (As := [.long a1]) (rest := []) hq hj0 (c_Form_sign l A ad j0 hj0 a1) kB_Form_sign wd_115 ⟨rfl, rfl, Nat.le_of_ble_eq_true rfl, Nat.le_of_ble_eq_true rfl⟩ rfl hl.1 rfl (Nat.le_of_ble_eq_true rfl) d_Floats_finiteSum_40 ⟨Nat.zero_le _, Nat.zero_le _⟩ ?_
  refine lv_aload_n hx hb d_Floats_finiteSum_43 rfl (lv_at hl 3 rfl) ?_
  refine lv_lload_n hx hb d_Floats_finiteSum_44 rfl (lv_at hl 5 rfl) ?_
  refine vl_ (As := [.long a2]) (rest := [.long (q_Form_sign j0 a1)]) hq hj0 (c_Form_sign l A ad j0 hj0 a2) kB_Form_sign wd_115 ⟨rfl, rfl, Nat.le_of_ble_eq_true rfl, Nat.le_of_ble_eq_true rfl⟩ rfl hl.1 rfl (Nat.le_of_ble_eq_true rfl) d_Floats_finiteSum_45 ⟨Nat.zero_le _, Nat.zero_le _⟩ ?_
  refine W.lcmp hx hb d_Floats_finiteSum_48 ?_
  refine lv_if_ne (tgt := 60) hx hb d_Floats_finiteSum_49 (by decide) (fun c_1 => ?_) (fun c_1 => ?_)
  · rw [lg_cmp_eq] at c_1
    refine lv_lload hx hb d_Floats_finiteSum_60 (lv_at hl 1 rfl) ?_
    refine lv_lload hx hb d_Floats_finiteSum_62 (lv_at hl 0 rfl) ?_
    refine lv_lsub hx hb d_Floats_finiteSum_64 ?_
    refine lv_lstore (lv' := [(10, .long ((shl_ (q_Form_significand j0 a1) (10 : Int32)) - (q_Bits_movedDown (shl_ (q_Form_significand j0 a2) (10 : Int32)) ((q_Form_scale j0 a1) - (q_Form_scale j0 a2))))), (8, .long (q_Bits_movedDown (shl_ (q_Form_significand j0 a2) (10 : Int32)) ((q_Form_scale j0 a1) - (q_Form_scale j0 a2)))), (6, .long (shl_ (q_Form_significand j0 a1) (10 : Int32))), (5, .int (q_Form_scale j0 a1)), (0, .ref (ad j0)), (1, .long a1), (3, .long a2)]) hx hb d_Floats_finiteSum_65 hl (by decide) rfl (fun ls hl => ?_)
    refine lv_lload hx hb d_Floats_finiteSum_67 (lv_at hl 0 rfl) ?_
    refine lv_lconst (v := (0 : Int64)) hx hb d_Floats_finiteSum_69 (by decide) ?_
    refine W.lcmp hx hb d_Floats_finiteSum_70 ?_
    refine lv_if_ne (tgt := 82) hx hb d_Floats_finiteSum_71 (by decide) (fun c_2 => ?_) (fun c_2 => ?_)
    · rw [lg_cmp_eq] at c_2
      refine lv_aload_n hx hb d_Floats_finiteSum_82 rfl (lv_at hl 4 rfl) ?_
      refine lv_aload_n hx hb d_Floats_finiteSum_83 rfl (lv_at hl 4 rfl) ?_
      refine lv_lload_n hx hb d_Floats_finiteSum_84 rfl (lv_at hl 5 rfl) ?_
      refine vl_ (As := [.long a1]) (rest := [.ref (ad j0)]) hq hj0 (c_Form_sign l A ad j0 hj0 a1) kB_Form_sign wd_115 ⟨rfl, rfl, Nat.le_of_ble_eq_true rfl, Nat.le_of_ble_eq_true rfl⟩ rfl hl.1 rfl (Nat.le_of_ble_eq_true rfl) d_Floats_finiteSum_85 ⟨Nat.zero_le _, Nat.zero_le _⟩ ?_
      refine lv_lload hx hb d_Floats_finiteSum_88 (lv_at hl 0 rfl) ?_
      refine lv_iload hx hb d_Floats_finiteSum_90 (lv_at hl 3 rfl) ?_
      refine lv_bipush (v := (10 : Int32)) hx hb d_Floats_finiteSum_92 (by decide) ?_
      refine lv_isub hx hb d_Floats_finiteSum_94 ?_
      refine vl_ (As := [.long (q_Form_sign j0 a1), .long ((shl_ (q_Form_significand j0 a1) (10 : Int32)) - (q_Bits_movedDown (shl_ (q_Form_significand j0 a2) (10 : Int32)) ((q_Form_scale j0 a1) - (q_Form_scale j0 a2)))), .int ((q_Form_scale j0 a1) - (10 : Int32))]) (rest := []) hq hj0 (c_Form_rounded l A ad j0 hj0 (q_Form_sign j0 a1) ((shl_ (q_Form_significand j0 a1) (10 : Int32)) - (q_Bits_movedDown (shl_ (q_Form_significand j0 a2) (10 : Int32)) ((q_Form_scale j0 a1) - (q_Form_scale j0 a2)))) ((q_Form_scale j0 a1) - (10 : Int32))) kB_Form_rounded wd_130 ⟨rfl, rfl, Nat.le_of_ble_eq_true rfl, Nat.le_of_ble_eq_true rfl⟩ rfl hl.1 rfl (Nat.le_of_ble_eq_true rfl) d_Floats_finiteSum_95 ⟨Nat.zero_le _, Nat.zero_le _⟩ ?_
      exact rl_ hx hb hr hk (by rw [q_Floats_finiteSum, if_neg c_1, if_neg c_2]) d_Floats_finiteSum_98
    · rw [lg_cmp_eq] at c_2
      refine lv_aload_n hx hb d_Floats_finiteSum_74 rfl (lv_at hl 4 rfl) ?_
      refine lv_lload_n hx hb d_Floats_finiteSum_75 rfl (lv_at hl 5 rfl) ?_
      refine lv_lload_n hx hb d_Floats_finiteSum_76 rfl (lv_at hl 6 rfl) ?_
      refine lv_land hx hb d_Floats_finiteSum_77 ?_
      refine vl_ (As := [.long (a1 &&& a2)]) (rest := []) hq hj0 (c_Form_sign l A ad j0 hj0 (a1 &&& a2)) kB_Form_sign wd_115 ⟨rfl, rfl, Nat.le_of_ble_eq_true rfl, Nat.le_of_ble_eq_true rfl⟩ rfl hl.1 rfl (Nat.le_of_ble_eq_true rfl) d_Floats_finiteSum_78 ⟨Nat.zero_le _, Nat.zero_le _⟩ ?_
      exact rl_ hx hb hr hk (by rw [q_Floats_finiteSum, if_neg c_1, if_pos c_2]) d_Floats_finiteSum_81
  · rw [lg_cmp_eq] at c_1
    refine lv_lload hx hb d_Floats_finiteSum_52 (lv_at hl 1 rfl) ?_
    refine lv_lload hx hb d_Floats_finiteSum_54 (lv_at hl 0 rfl) ?_
    refine lv_ladd hx hb d_Floats_finiteSum_56 ?_
    refine lv_goto (tgt := 65) hx hb d_Floats_finiteSum_57 (by decide) ?_
    refine lv_lstore (lv' := [(10, .long ((shl_ (q_Form_significand j0 a1) (10 : Int32)) + (q_Bits_movedDown (shl_ (q_Form_significand j0 a2) (10 : Int32)) ((q_Form_scale j0 a1) - (q_Form_scale j0 a2))))), (8, .long (q_Bits_movedDown (shl_ (q_Form_significand j0 a2) (10 : Int32)) ((q_Form_scale j0 a1) - (q_Form_scale j0 a2)))), (6, .long (shl_ (q_Form_significand j0 a1) (10 : Int32))), (5, .int (q_Form_scale j0 a1)), (0, .ref (ad j0)), (1, .long a1), (3, .long a2)]) hx hb d_Floats_finiteSum_65 hl (by decide) rfl (fun ls hl => ?_)
    refine lv_lload hx hb d_Floats_finiteSum_67 (lv_at hl 0 rfl) ?_
    refine lv_lconst (v := (0 : Int64)) hx hb d_Floats_finiteSum_69 (by decide) ?_
    refine W.lcmp hx hb d_Floats_finiteSum_70 ?_
    refine lv_if_ne (tgt := 82) hx hb d_Floats_finiteSum_71 (by decide) (fun c_3 => ?_) (fun c_3 => ?_)
    · rw [lg_cmp_eq] at c_3
      refine lv_aload_n hx hb d_Floats_finiteSum_82 rfl (lv_at hl 4 rfl) ?_
      refine lv_aload_n hx hb d_Floats_finiteSum_83 rfl (lv_at hl 4 rfl) ?_
      refine lv_lload_n hx hb d_Floats_finiteSum_84 rfl (lv_at hl 5 rfl) ?_
      refine vl_ (As := [.long a1]) (rest := [.ref (ad j0)]) hq hj0 (c_Form_sign l A ad j0 hj0 a1) kB_Form_sign wd_115 ⟨rfl, rfl, Nat.le_of_ble_eq_true rfl, Nat.le_of_ble_eq_true rfl⟩ rfl hl.1 rfl (Nat.le_of_ble_eq_true rfl) d_Floats_finiteSum_85 ⟨Nat.zero_le _, Nat.zero_le _⟩ ?_
      refine lv_lload hx hb d_Floats_finiteSum_88 (lv_at hl 0 rfl) ?_
      refine lv_iload hx hb d_Floats_finiteSum_90 (lv_at hl 3 rfl) ?_
      refine lv_bipush (v := (10 : Int32)) hx hb d_Floats_finiteSum_92 (by decide) ?_
      refine lv_isub hx hb d_Floats_finiteSum_94 ?_
      refine vl_ (As := [.long (q_Form_sign j0 a1), .long ((shl_ (q_Form_significand j0 a1) (10 : Int32)) + (q_Bits_movedDown (shl_ (q_Form_significand j0 a2) (10 : Int32)) ((q_Form_scale j0 a1) - (q_Form_scale j0 a2)))), .int ((q_Form_scale j0 a1) - (10 : Int32))]) (rest := []) hq hj0 (c_Form_rounded l A ad j0 hj0 (q_Form_sign j0 a1) ((shl_ (q_Form_significand j0 a1) (10 : Int32)) + (q_Bits_movedDown (shl_ (q_Form_significand j0 a2) (10 : Int32)) ((q_Form_scale j0 a1) - (q_Form_scale j0 a2)))) ((q_Form_scale j0 a1) - (10 : Int32))) kB_Form_rounded wd_130 ⟨rfl, rfl, Nat.le_of_ble_eq_true rfl, Nat.le_of_ble_eq_true rfl⟩ rfl hl.1 rfl (Nat.le_of_ble_eq_true rfl) d_Floats_finiteSum_95 ⟨Nat.zero_le _, Nat.zero_le _⟩ ?_
      exact rl_ hx hb hr hk (by rw [q_Floats_finiteSum, if_pos c_1, if_neg c_3]) d_Floats_finiteSum_98
    · rw [lg_cmp_eq] at c_3
      refine lv_aload_n hx hb d_Floats_finiteSum_74 rfl (lv_at hl 4 rfl) ?_
      refine lv_lload_n hx hb d_Floats_finiteSum_75 rfl (lv_at hl 5 rfl) ?_
      refine lv_lload_n hx hb d_Floats_finiteSum_76 rfl (lv_at hl 6 rfl) ?_
      refine lv_land hx hb d_Floats_finiteSum_77 ?_
      refine vl_ (As := [.long (a1 &&& a2)]) (rest := []) hq hj0 (c_Form_sign l A ad j0 hj0 (a1 &&& a2)) kB_Form_sign wd_115 ⟨rfl, rfl, Nat.le_of_ble_eq_true rfl, Nat.le_of_ble_eq_true rfl⟩ rfl hl.1 rfl (Nat.le_of_ble_eq_true rfl) d_Floats_finiteSum_78 ⟨Nat.zero_le _, Nat.zero_le _⟩ ?_
      exact rl_ hx hb hr hk (by rw [q_Floats_finiteSum, if_pos c_1, if_pos c_3]) d_Floats_finiteSum_81
def q_Floats_sum (j0 : Nat) (a1 : Int64) (a2 : Int64) : Int64 :=
  if (q_Form_isInfinite j0 a1) = 0 then
    if (q_Form_isInfinite j0 a2) = 0 then
      if (q_Form_withoutSign j0 a1) < (q_Form_withoutSign j0 a2) then
        (q_Floats_finiteSum j0 a2 a1)
      else
        (q_Floats_finiteSum j0 a1 a2)
    else
      a2
  else
    if (q_Form_isInfinite j0 a2) = 0 then
      a1
    else
      if a1 = a2 then
        a1
      else
        (fm_n j0)
theorem kB_Floats_sum : SB y_Floats_sum b_Floats_sum 6 (some .long) 3 := ⟨wd_136, wd_137, wd_119, by decide +kernel⟩
set_option maxHeartbeats 4000000 in
set_option maxRecDepth 100000 in
theorem c_Floats_sum (l : Launch) (A : Nat → Prop) (ad : Nat → Nat) (j0 : Nat) (hj0 : j0 < 2) (a1 : Int64) (a2 : Int64) : Met l y_Floats_sum (Cond.code y_Floats_sum b_Floats_sum 6 (some .long) :: BT) ({ frames := 4, cells := 0, slots := 0, locals := 109 }) (PC A ad [.ref (ad j0), .long a1, .long a2]) (vp_Sl (fun r => r = q_Floats_sum j0 a1 a2)) 0 0 (fun _ => False) := by
  refine pm_ (by decide +kernel) (Nat.le_of_ble_eq_true rfl) ?_
  intro p e s m below meth c hq hr hk ls hl
  have hx := hq.1
  have hb := hq.2.1
  have hts := hq.2.2.2.2.1
  have hl : lv_has ls 6 [(0, .ref (ad j0)), (1, .long a1), (3, .long a2)] := hl
  refine lv_aload_n hx hb d_Floats_sum_0 rfl (lv_at hl 0 rfl) ?_
  refine lv_lload_n hx hb d_Floats_sum_1 rfl (lv_at hl 1 rfl) ?_
  refine vi_ (As := [.long a1]) (rest := []) hq hj0 (c_Form_isInfinite l A ad j0 hj0 a1) kB_Form_isInfinite wd_133 ⟨rfl, rfl, Nat.le_of_ble_eq_true rfl, Nat.le_of_ble_eq_true rfl⟩ rfl hl.1 rfl (Nat.le_of_ble_eq_true rfl) d_Floats_sum_2 ⟨Nat.zero_le _, Nat.zero_le _⟩ ?_
  refine lv_if_eq (tgt := 31) hx hb d_Floats_sum_5 (by decide) (fun c_1 => ?_) (fun c_1 => ?_)
  · refine lv_aload_n hx hb d_Floats_sum_31 rfl (lv_at hl 0 rfl) ?_
    refine lv_lload_n hx hb d_Floats_sum_32 rfl (lv_at hl 2 rfl) ?_
    refine vi_ (As := [.long a2]) (rest := []) hq hj0 (c_Form_isInfinite l A ad j0 hj0 a2) kB_Form_isInfinite wd_133 ⟨rfl, rfl, Nat.le_of_ble_eq_true rfl, Nat.le_of_ble_eq_true rfl⟩ rfl hl.1 rfl (Nat.le_of_ble_eq_true rfl) d_Floats_sum_33 ⟨Nat.zero_le _, Nat.zero_le _⟩ ?_
    refine lv_if_eq (tgt := 41) hx hb d_Floats_sum_36 (by decide) (fun c_2 => ?_) (fun c_2 => ?_)
    · refine lv_aload_n hx hb d_Floats_sum_41 rfl (lv_at hl 0 rfl) ?_
      refine lv_lload_n hx hb d_Floats_sum_42 rfl (lv_at hl 1 rfl) ?_
      refine vl_ (As := [.long a1]) (rest := []) hq hj0 (c_Form_withoutSign l A ad j0 hj0 a1) kB_Form_withoutSign wd_116 ⟨rfl, rfl, Nat.le_of_ble_eq_true rfl, Nat.le_of_ble_eq_true rfl⟩ rfl hl.1 rfl (Nat.le_of_ble_eq_true rfl) d_Floats_sum_43 ⟨Nat.zero_le _, Nat.zero_le _⟩ ?_
      refine lv_aload_n hx hb d_Floats_sum_46 rfl (lv_at hl 0 rfl) ?_
      refine lv_lload_n hx hb d_Floats_sum_47 rfl (lv_at hl 2 rfl) ?_
      refine vl_ (As := [.long a2]) (rest := [.long (q_Form_withoutSign j0 a1)]) hq hj0 (c_Form_withoutSign l A ad j0 hj0 a2) kB_Form_withoutSign wd_116 ⟨rfl, rfl, Nat.le_of_ble_eq_true rfl, Nat.le_of_ble_eq_true rfl⟩ rfl hl.1 rfl (Nat.le_of_ble_eq_true rfl) d_Floats_sum_48 ⟨Nat.zero_le _, Nat.zero_le _⟩ ?_
      refine W.lcmp hx hb d_Floats_sum_51 ?_
      refine lv_if_lt (tgt := 59) hx hb d_Floats_sum_52 (by decide) (fun c_3 => ?_) (fun c_3 => ?_)
      · rw [lg_cmp_lt] at c_3
        refine lv_iconst (v := (0 : Int32)) hx hb d_Floats_sum_59 (by decide) ?_
        refine lv_istore (lv' := [(5, .int (0 : Int32)), (0, .ref (ad j0)), (1, .long a1), (3, .long a2)]) hx hb d_Floats_sum_60 hl (by decide) rfl (fun ls hl => ?_)
        refine lv_iload hx hb d_Floats_sum_62 (lv_at hl 0 rfl) ?_
        refine lv_if_eq (tgt := 76) hx hb d_Floats_sum_64 (by decide) (fun _ => ?_) (fun c => absurd (by decide) c)
        refine lv_aload_n hx hb d_Floats_sum_76 rfl (lv_at hl 1 rfl) ?_
        refine lv_lload_n hx hb d_Floats_sum_77 rfl (lv_at hl 3 rfl) ?_
        refine lv_lload_n hx hb d_Floats_sum_78 rfl (lv_at hl 2 rfl) ?_
        refine sl_ (As := [.ref (ad j0), .long a2, .long a1]) (rest := []) hq (c_Floats_finiteSum l A ad j0 hj0 a2 a1) kB_Floats_finiteSum wd_134 ⟨rfl, rfl, Nat.le_of_ble_eq_true rfl, Nat.le_of_ble_eq_true rfl⟩ rfl hl.1 rfl (Nat.le_of_ble_eq_true rfl) d_Floats_sum_79 ⟨Nat.zero_le _, Nat.zero_le _⟩ ?_
        exact rl_ hx hb hr hk (by rw [q_Floats_sum, if_pos c_1, if_pos c_2, if_pos c_3]) d_Floats_sum_82
      · rw [lg_cmp_lt] at c_3
        refine lv_iconst (v := (1 : Int32)) hx hb d_Floats_sum_55 (by decide) ?_
        refine lv_goto (tgt := 60) hx hb d_Floats_sum_56 (by decide) ?_
        refine lv_istore (lv' := [(5, .int (1 : Int32)), (0, .ref (ad j0)), (1, .long a1), (3, .long a2)]) hx hb d_Floats_sum_60 hl (by decide) rfl (fun ls hl => ?_)
        refine lv_iload hx hb d_Floats_sum_62 (lv_at hl 0 rfl) ?_
        refine lv_if_eq (tgt := 76) hx hb d_Floats_sum_64 (by decide) (fun c => absurd c (by decide)) (fun _ => ?_)
        refine lv_aload_n hx hb d_Floats_sum_67 rfl (lv_at hl 1 rfl) ?_
        refine lv_lload_n hx hb d_Floats_sum_68 rfl (lv_at hl 2 rfl) ?_
        refine lv_lload_n hx hb d_Floats_sum_69 rfl (lv_at hl 3 rfl) ?_
        refine sl_ (As := [.ref (ad j0), .long a1, .long a2]) (rest := []) hq (c_Floats_finiteSum l A ad j0 hj0 a1 a2) kB_Floats_finiteSum wd_134 ⟨rfl, rfl, Nat.le_of_ble_eq_true rfl, Nat.le_of_ble_eq_true rfl⟩ rfl hl.1 rfl (Nat.le_of_ble_eq_true rfl) d_Floats_sum_70 ⟨Nat.zero_le _, Nat.zero_le _⟩ ?_
        refine lv_goto (tgt := 82) hx hb d_Floats_sum_73 (by decide) ?_
        exact rl_ hx hb hr hk (by rw [q_Floats_sum, if_pos c_1, if_pos c_2, if_neg c_3]) d_Floats_sum_82
    · refine lv_lload_n hx hb d_Floats_sum_39 rfl (lv_at hl 2 rfl) ?_
      exact rl_ hx hb hr hk (by rw [q_Floats_sum, if_pos c_1, if_neg c_2]) d_Floats_sum_40
  · refine lv_aload_n hx hb d_Floats_sum_8 rfl (lv_at hl 0 rfl) ?_
    refine lv_lload_n hx hb d_Floats_sum_9 rfl (lv_at hl 2 rfl) ?_
    refine vi_ (As := [.long a2]) (rest := []) hq hj0 (c_Form_isInfinite l A ad j0 hj0 a2) kB_Form_isInfinite wd_133 ⟨rfl, rfl, Nat.le_of_ble_eq_true rfl, Nat.le_of_ble_eq_true rfl⟩ rfl hl.1 rfl (Nat.le_of_ble_eq_true rfl) d_Floats_sum_10 ⟨Nat.zero_le _, Nat.zero_le _⟩ ?_
    refine lv_if_eq (tgt := 29) hx hb d_Floats_sum_13 (by decide) (fun c_4 => ?_) (fun c_4 => ?_)
    · refine lv_lload_n hx hb d_Floats_sum_29 rfl (lv_at hl 1 rfl) ?_
      exact rl_ hx hb hr hk (by rw [q_Floats_sum, if_neg c_1, if_pos c_4]) d_Floats_sum_30
    · refine lv_lload_n hx hb d_Floats_sum_16 rfl (lv_at hl 1 rfl) ?_
      refine lv_lload_n hx hb d_Floats_sum_17 rfl (lv_at hl 2 rfl) ?_
      refine W.lcmp hx hb d_Floats_sum_18 ?_
      refine lv_if_eq (tgt := 29) hx hb d_Floats_sum_19 (by decide) (fun c_5 => ?_) (fun c_5 => ?_)
      · rw [lg_cmp_eq] at c_5
        refine lv_lload_n hx hb d_Floats_sum_29 rfl (lv_at hl 1 rfl) ?_
        exact rl_ hx hb hr hk (by rw [q_Floats_sum, if_neg c_1, if_neg c_4, if_pos c_5]) d_Floats_sum_30
      · rw [lg_cmp_eq] at c_5
        refine lv_aload_n hx hb d_Floats_sum_22 rfl (lv_at hl 0 rfl) ?_
        refine gf_n hq hj0 wd_135 d_Floats_sum_23 ?_
        refine lv_goto (tgt := 30) hx hb d_Floats_sum_26 (by decide) ?_
        exact rl_ hx hb hr hk (by rw [q_Floats_sum, if_neg c_1, if_neg c_4, if_neg c_5]) d_Floats_sum_30
def q_Floats_raised (j0 : Nat) (a1 : Int64) : Int64 :=
  (shl_ (q_Form_significand j0 a1) ((q_Long_numberOfLeadingZeros (q_Form_significand j0 a1)) - (2 : Int32)))
theorem kB_Floats_raised : SB y_Floats_raised b_Floats_raised 5 (some .long) 2 := ⟨wd_139, wd_140, wd_119, by decide +kernel⟩
set_option maxHeartbeats 4000000 in
set_option maxRecDepth 100000 in
theorem c_Floats_raised (l : Launch) (A : Nat → Prop) (ad : Nat → Nat) (j0 : Nat) (hj0 : j0 < 2) (a1 : Int64) : Met l y_Floats_raised (Cond.code y_Floats_raised b_Floats_raised 5 (some .long) :: BT) ({ frames := 2, cells := 0, slots := 0, locals := 48 }) (PC A ad [.ref (ad j0), .long a1]) (vp_Sl (fun r => r = q_Floats_raised j0 a1)) 0 0 (fun _ => False) := by
  refine pm_ (by decide +kernel) (Nat.le_of_ble_eq_true rfl) ?_
  intro p e s m below meth c hq hr hk ls hl
  have hx := hq.1
  have hb := hq.2.1
  have hts := hq.2.2.2.2.1
  have hl : lv_has ls 5 [(0, .ref (ad j0)), (1, .long a1)] := hl
  refine lv_aload_n hx hb d_Floats_raised_0 rfl (lv_at hl 0 rfl) ?_
  refine lv_lload_n hx hb d_Floats_raised_1 rfl (lv_at hl 1 rfl) ?_
  refine vl_ (As := [.long a1]) (rest := []) hq hj0 (c_Form_significand l A ad j0 hj0 a1) kB_Form_significand wd_128 ⟨rfl, rfl, Nat.le_of_ble_eq_true rfl, Nat.le_of_ble_eq_true rfl⟩ rfl hl.1 rfl (Nat.le_of_ble_eq_true rfl) d_Floats_raised_2 ⟨Nat.zero_le _, Nat.zero_le _⟩ ?_
  refine lv_lstore_n (lv' := [(3, .long (q_Form_significand j0 a1)), (0, .ref (ad j0)), (1, .long a1)]) hx hb d_Floats_raised_5 rfl hl (by decide) rfl (fun ls hl => ?_)
  refine lv_lload_n hx hb d_Floats_raised_6 rfl (lv_at hl 0 rfl) ?_
  refine lv_lload_n hx hb d_Floats_raised_7 rfl (lv_at hl 0 rfl) ?_
  refine si_ (As := [.long (q_Form_significand j0 a1)]) (rest := [.long (q_Form_significand j0 a1)]) hq (c_Long_numberOfLeadingZeros l A ad (q_Form_significand j0 a1)) kB_Long_numberOfLeadingZeros wd_138 ⟨rfl, rfl, Nat.le_of_ble_eq_true rfl, Nat.le_of_ble_eq_true rfl⟩ rfl hl.1 rfl (Nat.le_of_ble_eq_true rfl) d_Floats_raised_8 ⟨Nat.zero_le _, Nat.zero_le _⟩ ?_
  refine lv_iconst (v := (2 : Int32)) hx hb d_Floats_raised_11 (by decide) ?_
  refine lv_isub hx hb d_Floats_raised_12 ?_
  refine lv_lshl (v := (shl_ (q_Form_significand j0 a1) ((q_Long_numberOfLeadingZeros (q_Form_significand j0 a1)) - (2 : Int32)))) hx hb d_Floats_raised_13 rfl ?_
  exact rl_ hx hb hr hk (by rw [q_Floats_raised]) d_Floats_raised_14
def q_Floats_raisedScale (j0 : Nat) (a1 : Int64) : Int32 :=
  ((q_Form_scale j0 a1) - ((q_Long_numberOfLeadingZeros (q_Form_significand j0 a1)) - (2 : Int32)))
theorem kB_Floats_raisedScale : SB y_Floats_raisedScale b_Floats_raisedScale 3 (some .int) 2 := ⟨wd_141, wd_142, wd_119, by decide +kernel⟩
set_option maxHeartbeats 4000000 in
set_option maxRecDepth 100000 in
theorem c_Floats_raisedScale (l : Launch) (A : Nat → Prop) (ad : Nat → Nat) (j0 : Nat) (hj0 : j0 < 2) (a1 : Int64) : Met l y_Floats_raisedScale (Cond.code y_Floats_raisedScale b_Floats_raisedScale 3 (some .int) :: BT) ({ frames := 2, cells := 0, slots := 0, locals := 48 }) (PC A ad [.ref (ad j0), .long a1]) (vp_Si (fun r => r = q_Floats_raisedScale j0 a1)) 0 0 (fun _ => False) := by
  refine pm_ (by decide +kernel) (Nat.le_of_ble_eq_true rfl) ?_
  intro p e s m below meth c hq hr hk ls hl
  have hx := hq.1
  have hb := hq.2.1
  have hts := hq.2.2.2.2.1
  have hl : lv_has ls 3 [(0, .ref (ad j0)), (1, .long a1)] := hl
  refine lv_aload_n hx hb d_Floats_raisedScale_0 rfl (lv_at hl 0 rfl) ?_
  refine lv_lload_n hx hb d_Floats_raisedScale_1 rfl (lv_at hl 1 rfl) ?_
  refine vi_ (As := [.long a1]) (rest := []) hq hj0 (c_Form_scale l A ad j0 hj0 a1) kB_Form_scale wd_127 ⟨rfl, rfl, Nat.le_of_ble_eq_true rfl, Nat.le_of_ble_eq_true rfl⟩ rfl hl.1 rfl (Nat.le_of_ble_eq_true rfl) d_Floats_raisedScale_2 ⟨Nat.zero_le _, Nat.zero_le _⟩ ?_
  refine lv_aload_n hx hb d_Floats_raisedScale_5 rfl (lv_at hl 0 rfl) ?_
  refine lv_lload_n hx hb d_Floats_raisedScale_6 rfl (lv_at hl 1 rfl) ?_
  refine vl_ (As := [.long a1]) (rest := [.int (q_Form_scale j0 a1)]) hq hj0 (c_Form_significand l A ad j0 hj0 a1) kB_Form_significand wd_128 ⟨rfl, rfl, Nat.le_of_ble_eq_true rfl, Nat.le_of_ble_eq_true rfl⟩ rfl hl.1 rfl (Nat.le_of_ble_eq_true rfl) d_Floats_raisedScale_7 ⟨Nat.zero_le _, Nat.zero_le _⟩ ?_
  refine si_ (As := [.long (q_Form_significand j0 a1)]) (rest := [.int (q_Form_scale j0 a1)]) hq (c_Long_numberOfLeadingZeros l A ad (q_Form_significand j0 a1)) kB_Long_numberOfLeadingZeros wd_138 ⟨rfl, rfl, Nat.le_of_ble_eq_true rfl, Nat.le_of_ble_eq_true rfl⟩ rfl hl.1 rfl (Nat.le_of_ble_eq_true rfl) d_Floats_raisedScale_10 ⟨Nat.zero_le _, Nat.zero_le _⟩ ?_
  refine lv_iconst (v := (2 : Int32)) hx hb d_Floats_raisedScale_13 (by decide) ?_
  refine lv_isub hx hb d_Floats_raisedScale_14 ?_
  refine lv_isub hx hb d_Floats_raisedScale_15 ?_
  exact ri_ hx hb hr hk (by rw [q_Floats_raisedScale]) d_Floats_raisedScale_16
def q_Floats_product (j0 : Nat) (a1 : Int64) (a2 : Int64) : Int64 :=
  if (q_Form_isZero j0 a1) = 0 then
    if (q_Form_isZero j0 a2) = 0 then
      if (q_Form_isInfinite j0 a1) = 0 then
        if (q_Form_isInfinite j0 a2) = 0 then
          (q_Form_rounded j0 (q_Form_sign j0 (a1 ^^^ a2)) (q_Bits_marked (q_Math_multiplyHigh (q_Floats_raised j0 a1) (q_Floats_raised j0 a2)) ((q_Floats_raised j0 a1) * (q_Floats_raised j0 a2))) (((q_Floats_raisedScale j0 a1) + (q_Floats_raisedScale j0 a2)) + (64 : Int32)))
        else
          ((q_Form_sign j0 (a1 ^^^ a2)) ||| (fm_i j0))
      else
        ((q_Form_sign j0 (a1 ^^^ a2)) ||| (fm_i j0))
    else
      if (q_Form_isInfinite j0 a1) = 0 then
        if (q_Form_isInfinite j0 a2) = 0 then
          (q_Form_sign j0 (a1 ^^^ a2))
        else
          (fm_n j0)
      else
        (fm_n j0)
  else
    if (q_Form_isInfinite j0 a1) = 0 then
      if (q_Form_isInfinite j0 a2) = 0 then
        (q_Form_sign j0 (a1 ^^^ a2))
      else
        (fm_n j0)
    else
      (fm_n j0)
theorem kB_Floats_product : SB y_Floats_product b_Floats_product 14 (some .long) 3 := ⟨wd_148, wd_149, wd_119, by decide +kernel⟩
set_option maxHeartbeats 4000000 in
set_option maxRecDepth 100000 in
theorem c_Floats_product (l : Launch) (A : Nat → Prop) (ad : Nat → Nat) (j0 : Nat) (hj0 : j0 < 2) (a1 : Int64) (a2 : Int64) : Met l y_Floats_product (Cond.code y_Floats_product b_Floats_product 14 (some .long) :: BT) ({ frames := 3, cells := 0, slots := 0, locals := 78 }) (PC A ad [.ref (ad j0), .long a1, .long a2]) (vp_Sl (fun r => r = q_Floats_product j0 a1 a2)) 0 0 (fun _ => False) := by
  refine pm_ (by decide +kernel) (Nat.le_of_ble_eq_true rfl) ?_
  intro p e s m below meth c hq hr hk ls hl
  have hx := hq.1
  have hb := hq.2.1
  have hts := hq.2.2.2.2.1
  have hl : lv_has ls 14 [(0, .ref (ad j0)), (1, .long a1), (3, .long a2)] := hl
  refine lv_aload_n hx hb d_Floats_product_0 rfl (lv_at hl 0 rfl) ?_
  refine lv_lload_n hx hb d_Floats_product_1 rfl (lv_at hl 1 rfl) ?_
  refine lv_lload_n hx hb d_Floats_product_2 rfl (lv_at hl 2 rfl) ?_
  refine lv_lxor hx hb d_Floats_product_3 ?_
  refine vl_ (As := [.long (a1 ^^^ a2)]) (rest := []) hq hj0 (c_Form_sign l A ad j0 hj0 (a1 ^^^ a2)) kB_Form_sign wd_115 ⟨rfl, rfl, Nat.le_of_ble_eq_true rfl, Nat.le_of_ble_eq_true rfl⟩ rfl hl.1 rfl (Nat.le_of_ble_eq_true rfl) d_Floats_product_4 ⟨Nat.zero_le _, Nat.zero_le _⟩ ?_
  refine lv_lstore (lv' := [(5, .long (q_Form_sign j0 (a1 ^^^ a2))), (0, .ref (ad j0)), (1, .long a1), (3, .long a2)]) hx hb d_Floats_product_7 hl (by decide) rfl (fun ls hl => ?_)
  refine lv_aload_n hx hb d_Floats_product_9 rfl (lv_at hl 1 rfl) ?_
  refine lv_lload_n hx hb d_Floats_product_10 rfl (lv_at hl 2 rfl) ?_
  refine vi_ (As := [.long a1]) (rest := []) hq hj0 (c_Form_isZero l A ad j0 hj0 a1) kB_Form_isZero wd_124 ⟨rfl, rfl, Nat.le_of_ble_eq_true rfl, Nat.le_of_ble_eq_true rfl⟩ rfl hl.1 rfl (Nat.le_of_ble_eq_true rfl) d_Floats_product_11 ⟨Nat.zero_le _, Nat.zero_le _⟩ ?_
  refine lv_if_ne (tgt := 25) hx hb d_Floats_product_14 (by decide) (fun c_1 => ?_) (fun c_1 => ?_)
  · refine lv_iconst (v := (1 : Int32)) hx hb d_Floats_product_25 (by decide) ?_
    refine lv_goto (tgt := 30) hx hb d_Floats_product_26 (by decide) ?_
    refine lv_istore (lv' := [(7, .int (1 : Int32)), (5, .long (q_Form_sign j0 (a1 ^^^ a2))), (0, .ref (ad j0)), (1, .long a1), (3, .long a2)]) hx hb d_Floats_product_30 hl (by decide) rfl (fun ls hl => ?_)
    refine lv_aload_n hx hb d_Floats_product_32 rfl (lv_at hl 2 rfl) ?_
    refine lv_lload_n hx hb d_Floats_product_33 rfl (lv_at hl 3 rfl) ?_
    refine vi_ (As := [.long a1]) (rest := []) hq hj0 (c_Form_isInfinite l A ad j0 hj0 a1) kB_Form_isInfinite wd_133 ⟨rfl, rfl, Nat.le_of_ble_eq_true rfl, Nat.le_of_ble_eq_true rfl⟩ rfl hl.1 rfl (Nat.le_of_ble_eq_true rfl) d_Floats_product_34 ⟨Nat.zero_le _, Nat.zero_le _⟩ ?_
    refine lv_if_ne (tgt := 48) hx hb d_Floats_product_37 (by decide) (fun c_2 => ?_) (fun c_2 => ?_)
    · refine lv_iload hx hb d_Floats_product_48 (lv_at hl 0 rfl) ?_
      refine lv_if_eq (tgt := 60) hx hb d_Floats_product_50 (by decide) (fun c => absurd c (by decide)) (fun _ => ?_)
      refine lv_aload_n hx hb d_Floats_product_53 rfl (lv_at hl 2 rfl) ?_
      refine gf_n hq hj0 wd_135 d_Floats_product_54 ?_
      refine lv_goto (tgt := 67) hx hb d_Floats_product_57 (by decide) ?_
      exact rl_ hx hb hr hk (by rw [q_Floats_product, if_neg c_1, if_neg c_2]) d_Floats_product_67
    · refine lv_aload_n hx hb d_Floats_product_40 rfl (lv_at hl 2 rfl) ?_
      refine lv_lload_n hx hb d_Floats_product_41 rfl (lv_at hl 4 rfl) ?_
      refine vi_ (As := [.long a2]) (rest := []) hq hj0 (c_Form_isInfinite l A ad j0 hj0 a2) kB_Form_isInfinite wd_133 ⟨rfl, rfl, Nat.le_of_ble_eq_true rfl, Nat.le_of_ble_eq_true rfl⟩ rfl hl.1 rfl (Nat.le_of_ble_eq_true rfl) d_Floats_product_42 ⟨Nat.zero_le _, Nat.zero_le _⟩ ?_
      refine lv_if_eq (tgt := 68) hx hb d_Floats_product_45 (by decide) (fun c_3 => ?_) (fun c_3 => ?_)
      · refine lv_iload hx hb d_Floats_product_68 (lv_at hl 0 rfl) ?_
        refine lv_if_eq (tgt := 76) hx hb d_Floats_product_70 (by decide) (fun c => absurd c (by decide)) (fun _ => ?_)
        refine lv_lload hx hb d_Floats_product_73 (lv_at hl 1 rfl) ?_
        exact rl_ hx hb hr hk (by rw [q_Floats_product, if_neg c_1, if_pos c_2, if_pos c_3]) d_Floats_product_75
      · refine lv_iload hx hb d_Floats_product_48 (lv_at hl 0 rfl) ?_
        refine lv_if_eq (tgt := 60) hx hb d_Floats_product_50 (by decide) (fun c => absurd c (by decide)) (fun _ => ?_)
        refine lv_aload_n hx hb d_Floats_product_53 rfl (lv_at hl 2 rfl) ?_
        refine gf_n hq hj0 wd_135 d_Floats_product_54 ?_
        refine lv_goto (tgt := 67) hx hb d_Floats_product_57 (by decide) ?_
        exact rl_ hx hb hr hk (by rw [q_Floats_product, if_neg c_1, if_pos c_2, if_neg c_3]) d_Floats_product_67
  · refine lv_aload_n hx hb d_Floats_product_17 rfl (lv_at hl 1 rfl) ?_
    refine lv_lload_n hx hb d_Floats_product_18 rfl (lv_at hl 3 rfl) ?_
    refine vi_ (As := [.long a2]) (rest := []) hq hj0 (c_Form_isZero l A ad j0 hj0 a2) kB_Form_isZero wd_124 ⟨rfl, rfl, Nat.le_of_ble_eq_true rfl, Nat.le_of_ble_eq_true rfl⟩ rfl hl.1 rfl (Nat.le_of_ble_eq_true rfl) d_Floats_product_19 ⟨Nat.zero_le _, Nat.zero_le _⟩ ?_
    refine lv_if_eq (tgt := 29) hx hb d_Floats_product_22 (by decide) (fun c_4 => ?_) (fun c_4 => ?_)
    · refine lv_iconst (v := (0 : Int32)) hx hb d_Floats_product_29 (by decide) ?_
      refine lv_istore (lv' := [(7, .int (0 : Int32)), (5, .long (q_Form_sign j0 (a1 ^^^ a2))), (0, .ref (ad j0)), (1, .long a1), (3, .long a2)]) hx hb d_Floats_product_30 hl (by decide) rfl (fun ls hl => ?_)
      refine lv_aload_n hx hb d_Floats_product_32 rfl (lv_at hl 2 rfl) ?_
      refine lv_lload_n hx hb d_Floats_product_33 rfl (lv_at hl 3 rfl) ?_
      refine vi_ (As := [.long a1]) (rest := []) hq hj0 (c_Form_isInfinite l A ad j0 hj0 a1) kB_Form_isInfinite wd_133 ⟨rfl, rfl, Nat.le_of_ble_eq_true rfl, Nat.le_of_ble_eq_true rfl⟩ rfl hl.1 rfl (Nat.le_of_ble_eq_true rfl) d_Floats_product_34 ⟨Nat.zero_le _, Nat.zero_le _⟩ ?_
      refine lv_if_ne (tgt := 48) hx hb d_Floats_product_37 (by decide) (fun c_5 => ?_) (fun c_5 => ?_)
      · refine lv_iload hx hb d_Floats_product_48 (lv_at hl 0 rfl) ?_
        refine lv_if_eq (tgt := 60) hx hb d_Floats_product_50 (by decide) (fun _ => ?_) (fun c => absurd (by decide) c)
        refine lv_lload hx hb d_Floats_product_60 (lv_at hl 1 rfl) ?_
        refine lv_aload_n hx hb d_Floats_product_62 rfl (lv_at hl 2 rfl) ?_
        refine gf_i hq hj0 wd_143 d_Floats_product_63 ?_
        refine lv_lor hx hb d_Floats_product_66 ?_
        exact rl_ hx hb hr hk (by rw [q_Floats_product, if_pos c_1, if_pos c_4, if_neg c_5]) d_Floats_product_67
      · refine lv_aload_n hx hb d_Floats_product_40 rfl (lv_at hl 2 rfl) ?_
        refine lv_lload_n hx hb d_Floats_product_41 rfl (lv_at hl 4 rfl) ?_
        refine vi_ (As := [.long a2]) (rest := []) hq hj0 (c_Form_isInfinite l A ad j0 hj0 a2) kB_Form_isInfinite wd_133 ⟨rfl, rfl, Nat.le_of_ble_eq_true rfl, Nat.le_of_ble_eq_true rfl⟩ rfl hl.1 rfl (Nat.le_of_ble_eq_true rfl) d_Floats_product_42 ⟨Nat.zero_le _, Nat.zero_le _⟩ ?_
        refine lv_if_eq (tgt := 68) hx hb d_Floats_product_45 (by decide) (fun c_6 => ?_) (fun c_6 => ?_)
        · refine lv_iload hx hb d_Floats_product_68 (lv_at hl 0 rfl) ?_
          refine lv_if_eq (tgt := 76) hx hb d_Floats_product_70 (by decide) (fun _ => ?_) (fun c => absurd (by decide) c)
          refine lv_aload_n hx hb d_Floats_product_76 rfl (lv_at hl 2 rfl) ?_
          refine lv_lload_n hx hb d_Floats_product_77 rfl (lv_at hl 3 rfl) ?_
          refine sl_ (As := [.ref (ad j0), .long a1]) (rest := []) hq (c_Floats_raised l A ad j0 hj0 a1) kB_Floats_raised wd_144 ⟨rfl, rfl, Nat.le_of_ble_eq_true rfl, Nat.le_of_ble_eq_true rfl⟩ rfl hl.1 rfl (Nat.le_of_ble_eq_true rfl) d_Floats_product_78 ⟨Nat.zero_le _, Nat.zero_le _⟩ ?_
          refine lv_lstore (lv' := [(8, .long (q_Floats_raised j0 a1)), (7, .int (0 : Int32)), (5, .long (q_Form_sign j0 (a1 ^^^ a2))), (0, .ref (ad j0)), (1, .long a1), (3, .long a2)]) hx hb d_Floats_product_81 hl (by decide) rfl (fun ls hl => ?_)
          refine lv_aload_n hx hb d_Floats_product_83 rfl (lv_at hl 3 rfl) ?_
          refine lv_lload_n hx hb d_Floats_product_84 rfl (lv_at hl 5 rfl) ?_
          refine sl_ (As := [.ref (ad j0), .long a2]) (rest := []) hq (c_Floats_raised l A ad j0 hj0 a2) kB_Floats_raised wd_144 ⟨rfl, rfl, Nat.le_of_ble_eq_true rfl, Nat.le_of_ble_eq_true rfl⟩ rfl hl.1 rfl (Nat.le_of_ble_eq_true rfl) d_Floats_product_85 ⟨Nat.zero_le _, Nat.zero_le _⟩ ?_
          refine lv_lstore (lv' := [(10, .long (q_Floats_raised j0 a2)), (8, .long (q_Floats_raised j0 a1)), (7, .int (0 : Int32)), (5, .long (q_Form_sign j0 (a1 ^^^ a2))), (0, .ref (ad j0)), (1, .long a1), (3, .long a2)]) hx hb d_Floats_product_88 hl (by decide) rfl (fun ls hl => ?_)
          refine lv_lload hx hb d_Floats_product_90 (lv_at hl 1 rfl) ?_
          refine lv_lload hx hb d_Floats_product_92 (lv_at hl 0 rfl) ?_
          refine sl_ (As := [.long (q_Floats_raised j0 a1), .long (q_Floats_raised j0 a2)]) (rest := []) hq (c_Math_multiplyHigh l A ad (q_Floats_raised j0 a1) (q_Floats_raised j0 a2)) kB_Math_multiplyHigh wd_145 ⟨rfl, rfl, Nat.le_of_ble_eq_true rfl, Nat.le_of_ble_eq_true rfl⟩ rfl hl.1 rfl (Nat.le_of_ble_eq_true rfl) d_Floats_product_94 ⟨Nat.zero_le _, Nat.zero_le _⟩ ?_
          refine lv_lload hx hb d_Floats_product_97 (lv_at hl 1 rfl) ?_
          refine lv_lload hx hb d_Floats_product_99 (lv_at hl 0 rfl) ?_
          refine lv_lmul hx hb d_Floats_product_101 ?_
          refine sl_ (As := [.long (q_Math_multiplyHigh (q_Floats_raised j0 a1) (q_Floats_raised j0 a2)), .long ((q_Floats_raised j0 a1) * (q_Floats_raised j0 a2))]) (rest := []) hq (c_Bits_marked l A ad (q_Math_multiplyHigh (q_Floats_raised j0 a1) (q_Floats_raised j0 a2)) ((q_Floats_raised j0 a1) * (q_Floats_raised j0 a2))) kB_Bits_marked wd_146 ⟨rfl, rfl, Nat.le_of_ble_eq_true rfl, Nat.le_of_ble_eq_true rfl⟩ rfl hl.1 rfl (Nat.le_of_ble_eq_true rfl) d_Floats_product_102 ⟨Nat.zero_le _, Nat.zero_le _⟩ ?_
          refine lv_lstore (lv' := [(12, .long (q_Bits_marked (q_Math_multiplyHigh (q_Floats_raised j0 a1) (q_Floats_raised j0 a2)) ((q_Floats_raised j0 a1) * (q_Floats_raised j0 a2)))), (10, .long (q_Floats_raised j0 a2)), (8, .long (q_Floats_raised j0 a1)), (7, .int (0 : Int32)), (5, .long (q_Form_sign j0 (a1 ^^^ a2))), (0, .ref (ad j0)), (1, .long a1), (3, .long a2)]) hx hb d_Floats_product_105 hl (by decide) rfl (fun ls hl => ?_)
          refine lv_aload_n hx hb d_Floats_product_107 rfl (lv_at hl 5 rfl) ?_
          refine lv_lload hx hb d_Floats_product_108 (lv_at hl 4 rfl) ?_
          refine lv_lload hx hb d_Floats_product_110 (lv_at hl 0 rfl) ?_
          refine lv_aload_n hx hb d_Floats_product_112 rfl (lv_at hl 5 rfl) ?_
          refine lv_lload_n hx hb d_Floats_product_113 rfl (lv_at hl 6 rfl) ?_
          refine si_ (As := [.ref (ad j0), .long a1]) (rest := [.long (q_Bits_marked (q_Math_multiplyHigh (q_Floats_raised j0 a1) (q_Floats_raised j0 a2)) ((q_Floats_raised j0 a1) * (q_Floats_raised j0 a2))), .long (q_Form_sign j0 (a1 ^^^ a2)), .ref (ad j0)]) hq (c_Floats_raisedScale l A ad j0 hj0 a1) kB_Floats_raisedScale wd_147 ⟨rfl, rfl, Nat.le_of_ble_eq_true rfl, Nat.le_of_ble_eq_true rfl⟩ rfl hl.1 rfl (Nat.le_of_ble_eq_true rfl) d_Floats_product_114 ⟨Nat.zero_le _, Nat.zero_le _⟩ ?_
          refine lv_aload_n hx hb d_Floats_product_117 rfl (lv_at hl 5 rfl) ?_
          refine lv_lload_n hx hb d_Floats_product_118 rfl (lv_at hl 7 rfl) ?_
          refine si_ (As := [.ref (ad j0), .long a2]) (rest := [.int (q_Floats_raisedScale j0 a1), .long (q_Bits_marked (q_Math_multiplyHigh (q_Floats_raised j0 a1) (q_Floats_raised j0 a2)) ((q_Floats_raised j0 a1) * (q_Floats_raised j0 a2))), .long (q_Form_sign j0 (a1 ^^^ a2)), .ref (ad j0)]) hq (c_Floats_raisedScale l A ad j0 hj0 a2) kB_Floats_raisedScale wd_147 ⟨rfl, rfl, Nat.le_of_ble_eq_true rfl, Nat.le_of_ble_eq_true rfl⟩ rfl hl.1 rfl (Nat.le_of_ble_eq_true rfl) d_Floats_product_119 ⟨Nat.zero_le _, Nat.zero_le _⟩ ?_
          refine lv_iadd hx hb d_Floats_product_122 ?_
          refine lv_bipush (v := (64 : Int32)) hx hb d_Floats_product_123 (by decide) ?_
          refine lv_iadd hx hb d_Floats_product_125 ?_
          refine vl_ (As := [.long (q_Form_sign j0 (a1 ^^^ a2)), .long (q_Bits_marked (q_Math_multiplyHigh (q_Floats_raised j0 a1) (q_Floats_raised j0 a2)) ((q_Floats_raised j0 a1) * (q_Floats_raised j0 a2))), .int (((q_Floats_raisedScale j0 a1) + (q_Floats_raisedScale j0 a2)) + (64 : Int32))]) (rest := []) hq hj0 (c_Form_rounded l A ad j0 hj0 (q_Form_sign j0 (a1 ^^^ a2)) (q_Bits_marked (q_Math_multiplyHigh (q_Floats_raised j0 a1) (q_Floats_raised j0 a2)) ((q_Floats_raised j0 a1) * (q_Floats_raised j0 a2))) (((q_Floats_raisedScale j0 a1) + (q_Floats_raisedScale j0 a2)) + (64 : Int32))) kB_Form_rounded wd_130 ⟨rfl, rfl, Nat.le_of_ble_eq_true rfl, Nat.le_of_ble_eq_true rfl⟩ rfl hl.1 rfl (Nat.le_of_ble_eq_true rfl) d_Floats_product_126 ⟨Nat.zero_le _, Nat.zero_le _⟩ ?_
          exact rl_ hx hb hr hk (by rw [q_Floats_product, if_pos c_1, if_pos c_4, if_pos c_5, if_pos c_6]) d_Floats_product_129
        · refine lv_iload hx hb d_Floats_product_48 (lv_at hl 0 rfl) ?_
          refine lv_if_eq (tgt := 60) hx hb d_Floats_product_50 (by decide) (fun _ => ?_) (fun c => absurd (by decide) c)
          refine lv_lload hx hb d_Floats_product_60 (lv_at hl 1 rfl) ?_
          refine lv_aload_n hx hb d_Floats_product_62 rfl (lv_at hl 2 rfl) ?_
          refine gf_i hq hj0 wd_143 d_Floats_product_63 ?_
          refine lv_lor hx hb d_Floats_product_66 ?_
          exact rl_ hx hb hr hk (by rw [q_Floats_product, if_pos c_1, if_pos c_4, if_pos c_5, if_neg c_6]) d_Floats_product_67
    · refine lv_iconst (v := (1 : Int32)) hx hb d_Floats_product_25 (by decide) ?_
      refine lv_goto (tgt := 30) hx hb d_Floats_product_26 (by decide) ?_
      refine lv_istore (lv' := [(7, .int (1 : Int32)), (5, .long (q_Form_sign j0 (a1 ^^^ a2))), (0, .ref (ad j0)), (1, .long a1), (3, .long a2)]) hx hb d_Floats_product_30 hl (by decide) rfl (fun ls hl => ?_)
      refine lv_aload_n hx hb d_Floats_product_32 rfl (lv_at hl 2 rfl) ?_
      refine lv_lload_n hx hb d_Floats_product_33 rfl (lv_at hl 3 rfl) ?_
      refine vi_ (As := [.long a1]) (rest := []) hq hj0 (c_Form_isInfinite l A ad j0 hj0 a1) kB_Form_isInfinite wd_133 ⟨rfl, rfl, Nat.le_of_ble_eq_true rfl, Nat.le_of_ble_eq_true rfl⟩ rfl hl.1 rfl (Nat.le_of_ble_eq_true rfl) d_Floats_product_34 ⟨Nat.zero_le _, Nat.zero_le _⟩ ?_
      refine lv_if_ne (tgt := 48) hx hb d_Floats_product_37 (by decide) (fun c_7 => ?_) (fun c_7 => ?_)
      · refine lv_iload hx hb d_Floats_product_48 (lv_at hl 0 rfl) ?_
        refine lv_if_eq (tgt := 60) hx hb d_Floats_product_50 (by decide) (fun c => absurd c (by decide)) (fun _ => ?_)
        refine lv_aload_n hx hb d_Floats_product_53 rfl (lv_at hl 2 rfl) ?_
        refine gf_n hq hj0 wd_135 d_Floats_product_54 ?_
        refine lv_goto (tgt := 67) hx hb d_Floats_product_57 (by decide) ?_
        exact rl_ hx hb hr hk (by rw [q_Floats_product, if_pos c_1, if_neg c_4, if_neg c_7]) d_Floats_product_67
      · refine lv_aload_n hx hb d_Floats_product_40 rfl (lv_at hl 2 rfl) ?_
        refine lv_lload_n hx hb d_Floats_product_41 rfl (lv_at hl 4 rfl) ?_
        refine vi_ (As := [.long a2]) (rest := []) hq hj0 (c_Form_isInfinite l A ad j0 hj0 a2) kB_Form_isInfinite wd_133 ⟨rfl, rfl, Nat.le_of_ble_eq_true rfl, Nat.le_of_ble_eq_true rfl⟩ rfl hl.1 rfl (Nat.le_of_ble_eq_true rfl) d_Floats_product_42 ⟨Nat.zero_le _, Nat.zero_le _⟩ ?_
        refine lv_if_eq (tgt := 68) hx hb d_Floats_product_45 (by decide) (fun c_8 => ?_) (fun c_8 => ?_)
        · refine lv_iload hx hb d_Floats_product_68 (lv_at hl 0 rfl) ?_
          refine lv_if_eq (tgt := 76) hx hb d_Floats_product_70 (by decide) (fun c => absurd c (by decide)) (fun _ => ?_)
          refine lv_lload hx hb d_Floats_product_73 (lv_at hl 1 rfl) ?_
          exact rl_ hx hb hr hk (by rw [q_Floats_product, if_pos c_1, if_neg c_4, if_pos c_7, if_pos c_8]) d_Floats_product_75
        · refine lv_iload hx hb d_Floats_product_48 (lv_at hl 0 rfl) ?_
          refine lv_if_eq (tgt := 60) hx hb d_Floats_product_50 (by decide) (fun c => absurd c (by decide)) (fun _ => ?_)
          refine lv_aload_n hx hb d_Floats_product_53 rfl (lv_at hl 2 rfl) ?_
          refine gf_n hq hj0 wd_135 d_Floats_product_54 ?_
          refine lv_goto (tgt := 67) hx hb d_Floats_product_57 (by decide) ?_
          exact rl_ hx hb hr hk (by rw [q_Floats_product, if_pos c_1, if_neg c_4, if_pos c_7, if_neg c_8]) d_Floats_product_67
end
section
def q_Steps_goesAway (a0 : Int32) (a1 : Int64) : Int32 :=
  if a0 = (141 : Int32) then
    if a1 = (0 : Int64) then
      (1 : Int32)
    else
      if a0 = (142 : Int32) then
        if a1 = (0 : Int64) then
          (0 : Int32)
        else
          (1 : Int32)
      else
        (0 : Int32)
  else
    if a0 = (142 : Int32) then
      if a1 = (0 : Int64) then
        (0 : Int32)
      else
        (1 : Int32)
    else
      (0 : Int32)
theorem kB_Steps_goesAway : SB y_Steps_goesAway b_Steps_goesAway 3 (some .boolean) 2 := ⟨wd_150, wd_151, wd_152, by decide +kernel⟩
set_option maxHeartbeats 4000000 in
set_option maxRecDepth 100000 in
theorem c_Steps_goesAway (l : Launch) (A : Nat → Prop) (ad : Nat → Nat) (a0 : Int32) (a1 : Int64) : Met l y_Steps_goesAway (Cond.code y_Steps_goesAway b_Steps_goesAway 3 (some .boolean) :: BT) ({ frames := 0, cells := 0, slots := 0, locals := 0 }) (PC A ad [.int a0, .long a1]) (vp_Si (fun r => r = q_Steps_goesAway a0 a1)) 0 0 (fun _ => False) := by
  refine pm_ (by decide +kernel) (Nat.le_of_ble_eq_true rfl) ?_
  intro p e s m below meth c hq hr hk ls hl
  have hx := hq.1
  have hb := hq.2.1
  have hts := hq.2.2.2.2.1
  have hl : lv_has ls 3 [(0, .int a0), (1, .long a1)] := hl
  refine lv_iload_n hx hb d_Steps_goesAway_0 rfl (lv_at hl 0 rfl) ?_
  refine lv_sipush (v := (141 : Int32)) hx hb d_Steps_goesAway_1 (by decide) ?_
  refine lv_icmp_ne (tgt := 13) hx hb d_Steps_goesAway_4 (by decide) (fun c_1 => ?_) (fun c_1 => ?_)
  · refine lv_iload_n hx hb d_Steps_goesAway_13 rfl (lv_at hl 0 rfl) ?_
    refine lv_sipush (v := (142 : Int32)) hx hb d_Steps_goesAway_14 (by decide) ?_
    refine lv_icmp_ne (tgt := 30) hx hb d_Steps_goesAway_17 (by decide) (fun c_2 => ?_) (fun c_2 => ?_)
    · refine lv_iconst (v := (0 : Int32)) hx hb d_Steps_goesAway_30 (by decide) ?_
      exact rz_ hx hb hr hk (by decide) (by rw [q_Steps_goesAway, if_neg c_1, if_neg c_2]) d_Steps_goesAway_31
    · refine lv_lload_n hx hb d_Steps_goesAway_20 rfl (lv_at hl 1 rfl) ?_
      refine lv_lconst (v := (0 : Int64)) hx hb d_Steps_goesAway_21 (by decide) ?_
      refine W.lcmp hx hb d_Steps_goesAway_22 ?_
      refine lv_if_eq (tgt := 30) hx hb d_Steps_goesAway_23 (by decide) (fun c_3 => ?_) (fun c_3 => ?_)
      · rw [lg_cmp_eq] at c_3
        refine lv_iconst (v := (0 : Int32)) hx hb d_Steps_goesAway_30 (by decide) ?_
        exact rz_ hx hb hr hk (by decide) (by rw [q_Steps_goesAway, if_neg c_1, if_pos c_2, if_pos c_3]) d_Steps_goesAway_31
      · rw [lg_cmp_eq] at c_3
        refine lv_iconst (v := (1 : Int32)) hx hb d_Steps_goesAway_26 (by decide) ?_
        refine lv_goto (tgt := 31) hx hb d_Steps_goesAway_27 (by decide) ?_
        exact rz_ hx hb hr hk (by decide) (by rw [q_Steps_goesAway, if_neg c_1, if_pos c_2, if_neg c_3]) d_Steps_goesAway_31
  · refine lv_lload_n hx hb d_Steps_goesAway_7 rfl (lv_at hl 1 rfl) ?_
    refine lv_lconst (v := (0 : Int64)) hx hb d_Steps_goesAway_8 (by decide) ?_
    refine W.lcmp hx hb d_Steps_goesAway_9 ?_
    refine lv_if_eq (tgt := 26) hx hb d_Steps_goesAway_10 (by decide) (fun c_4 => ?_) (fun c_4 => ?_)
    · rw [lg_cmp_eq] at c_4
      refine lv_iconst (v := (1 : Int32)) hx hb d_Steps_goesAway_26 (by decide) ?_
      refine lv_goto (tgt := 31) hx hb d_Steps_goesAway_27 (by decide) ?_
      exact rz_ hx hb hr hk (by decide) (by rw [q_Steps_goesAway, if_pos c_1, if_pos c_4]) d_Steps_goesAway_31
    · rw [lg_cmp_eq] at c_4
      refine lv_iload_n hx hb d_Steps_goesAway_13 rfl (lv_at hl 0 rfl) ?_
      refine lv_sipush (v := (142 : Int32)) hx hb d_Steps_goesAway_14 (by decide) ?_
      refine lv_icmp_ne (tgt := 30) hx hb d_Steps_goesAway_17 (by decide) (fun c_5 => ?_) (fun c_5 => ?_)
      · refine lv_iconst (v := (0 : Int32)) hx hb d_Steps_goesAway_30 (by decide) ?_
        exact rz_ hx hb hr hk (by decide) (by rw [q_Steps_goesAway, if_pos c_1, if_neg c_4, if_neg c_5]) d_Steps_goesAway_31
      · refine lv_lload_n hx hb d_Steps_goesAway_20 rfl (lv_at hl 1 rfl) ?_
        refine lv_lconst (v := (0 : Int64)) hx hb d_Steps_goesAway_21 (by decide) ?_
        refine W.lcmp hx hb d_Steps_goesAway_22 ?_
        refine lv_if_eq (tgt := 30) hx hb d_Steps_goesAway_23 (by decide) (fun c_6 => ?_) (fun c_6 => ?_)
        · rw [lg_cmp_eq] at c_6
          refine lv_iconst (v := (0 : Int32)) hx hb d_Steps_goesAway_30 (by decide) ?_
          exact rz_ hx hb hr hk (by decide) (by rw [q_Steps_goesAway, if_pos c_1, if_neg c_4, if_pos c_5, if_pos c_6]) d_Steps_goesAway_31
        · rw [lg_cmp_eq] at c_6
          refine lv_iconst (v := (1 : Int32)) hx hb d_Steps_goesAway_26 (by decide) ?_
          refine lv_goto (tgt := 31) hx hb d_Steps_goesAway_27 (by decide) ?_
          exact rz_ hx hb hr hk (by decide) (by rw [q_Steps_goesAway, if_pos c_1, if_neg c_4, if_pos c_5, if_neg c_6]) d_Steps_goesAway_31
def q_Steps_isNearerAway (a0 : Int64) (a1 : Int64) (a2 : Int64) : Int32 :=
  if (ush_ a2 (1 : Int32)) < a1 then
    (1 : Int32)
  else
    if a1 = (ush_ a2 (1 : Int32)) then
      if (a0 &&& a2) = (0 : Int64) then
        (0 : Int32)
      else
        (1 : Int32)
    else
      (0 : Int32)
theorem kB_Steps_isNearerAway : SB y_Steps_isNearerAway b_Steps_isNearerAway 8 (some .boolean) 3 := ⟨wd_153, wd_154, wd_152, by decide +kernel⟩
set_option maxHeartbeats 4000000 in
set_option maxRecDepth 100000 in
theorem c_Steps_isNearerAway (l : Launch) (A : Nat → Prop) (ad : Nat → Nat) (a0 : Int64) (a1 : Int64) (a2 : Int64) : Met l y_Steps_isNearerAway (Cond.code y_Steps_isNearerAway b_Steps_isNearerAway 8 (some .boolean) :: BT) ({ frames := 0, cells := 0, slots := 0, locals := 0 }) (PC A ad [.long a0, .long a1, .long a2]) (vp_Si (fun r => r = q_Steps_isNearerAway a0 a1 a2)) 0 0 (fun _ => False) := by
  refine pm_ (by decide +kernel) (Nat.le_of_ble_eq_true rfl) ?_
  intro p e s m below meth c hq hr hk ls hl
  have hx := hq.1
  have hb := hq.2.1
  have hts := hq.2.2.2.2.1
  have hl : lv_has ls 8 [(0, .long a0), (2, .long a1), (4, .long a2)] := hl
  refine lv_lload hx hb d_Steps_isNearerAway_0 (lv_at hl 2 rfl) ?_
  refine lv_iconst (v := (1 : Int32)) hx hb d_Steps_isNearerAway_2 (by decide) ?_
  refine lv_lushr (v := (ush_ a2 (1 : Int32))) hx hb d_Steps_isNearerAway_3 rfl ?_
  refine lv_lstore (lv' := [(6, .long (ush_ a2 (1 : Int32))), (0, .long a0), (2, .long a1), (4, .long a2)]) hx hb d_Steps_isNearerAway_4 hl (by decide) rfl (fun ls hl => ?_)
  refine lv_lload_n hx hb d_Steps_isNearerAway_6 rfl (lv_at hl 2 rfl) ?_
  refine lv_lload hx hb d_Steps_isNearerAway_7 (lv_at hl 0 rfl) ?_
  refine W.lcmp hx hb d_Steps_isNearerAway_9 ?_
  refine lv_if_gt (tgt := 29) hx hb d_Steps_isNearerAway_10 (by decide) (fun c_1 => ?_) (fun c_1 => ?_)
  · rw [lg_cmp_gt] at c_1
    refine lv_iconst (v := (1 : Int32)) hx hb d_Steps_isNearerAway_29 (by decide) ?_
    refine lv_goto (tgt := 34) hx hb d_Steps_isNearerAway_30 (by decide) ?_
    exact rz_ hx hb hr hk (by decide) (by rw [q_Steps_isNearerAway, if_pos c_1]) d_Steps_isNearerAway_34
  · rw [lg_cmp_gt] at c_1
    refine lv_lload_n hx hb d_Steps_isNearerAway_13 rfl (lv_at hl 2 rfl) ?_
    refine lv_lload hx hb d_Steps_isNearerAway_14 (lv_at hl 0 rfl) ?_
    refine W.lcmp hx hb d_Steps_isNearerAway_16 ?_
    refine lv_if_ne (tgt := 33) hx hb d_Steps_isNearerAway_17 (by decide) (fun c_2 => ?_) (fun c_2 => ?_)
    · rw [lg_cmp_eq] at c_2
      refine lv_iconst (v := (0 : Int32)) hx hb d_Steps_isNearerAway_33 (by decide) ?_
      exact rz_ hx hb hr hk (by decide) (by rw [q_Steps_isNearerAway, if_neg c_1, if_neg c_2]) d_Steps_isNearerAway_34
    · rw [lg_cmp_eq] at c_2
      refine lv_lload_n hx hb d_Steps_isNearerAway_20 rfl (lv_at hl 1 rfl) ?_
      refine lv_lload hx hb d_Steps_isNearerAway_21 (lv_at hl 3 rfl) ?_
      refine lv_land hx hb d_Steps_isNearerAway_23 ?_
      refine lv_lconst (v := (0 : Int64)) hx hb d_Steps_isNearerAway_24 (by decide) ?_
      refine W.lcmp hx hb d_Steps_isNearerAway_25 ?_
      refine lv_if_eq (tgt := 33) hx hb d_Steps_isNearerAway_26 (by decide) (fun c_3 => ?_) (fun c_3 => ?_)
      · rw [lg_cmp_eq] at c_3
        refine lv_iconst (v := (0 : Int32)) hx hb d_Steps_isNearerAway_33 (by decide) ?_
        exact rz_ hx hb hr hk (by decide) (by rw [q_Steps_isNearerAway, if_neg c_1, if_pos c_2, if_pos c_3]) d_Steps_isNearerAway_34
      · rw [lg_cmp_eq] at c_3
        refine lv_iconst (v := (1 : Int32)) hx hb d_Steps_isNearerAway_29 (by decide) ?_
        refine lv_goto (tgt := 34) hx hb d_Steps_isNearerAway_30 (by decide) ?_
        exact rz_ hx hb hr hk (by decide) (by rw [q_Steps_isNearerAway, if_neg c_1, if_pos c_2, if_neg c_3]) d_Steps_isNearerAway_34
def q_Steps_fromOneOn (a0 : Int32) (j1 : Nat) (a2 : Int64) (a3 : Int32) : Int64 :=
  if (a2 &&& ((shl_ (1 : Int64) a3) - (1 : Int64))) = (0 : Int64) then
    a2
  else
    if a0 = (144 : Int32) then
      if (q_Steps_isNearerAway (a2 - (a2 &&& ((shl_ (1 : Int64) a3) - (1 : Int64)))) (a2 &&& ((shl_ (1 : Int64) a3) - (1 : Int64))) (shl_ (1 : Int64) a3)) = 0 then
        (a2 - (a2 &&& ((shl_ (1 : Int64) a3) - (1 : Int64))))
      else
        ((a2 - (a2 &&& ((shl_ (1 : Int64) a3) - (1 : Int64)))) + (shl_ (1 : Int64) a3))
    else
      if (q_Steps_goesAway a0 (q_Form_sign j1 a2)) = 0 then
        (a2 - (a2 &&& ((shl_ (1 : Int64) a3) - (1 : Int64))))
      else
        ((a2 - (a2 &&& ((shl_ (1 : Int64) a3) - (1 : Int64)))) + (shl_ (1 : Int64) a3))
theorem kB_Steps_fromOneOn : SB y_Steps_fromOneOn b_Steps_fromOneOn 12 (some .long) 4 := ⟨wd_158, wd_159, wd_152, by decide +kernel⟩
set_option maxHeartbeats 4000000 in
set_option maxRecDepth 100000 in
theorem c_Steps_fromOneOn (l : Launch) (A : Nat → Prop) (ad : Nat → Nat) (a0 : Int32) (j1 : Nat) (hj1 : j1 < 2) (a2 : Int64) (a3 : Int32) : Met l y_Steps_fromOneOn (Cond.code y_Steps_fromOneOn b_Steps_fromOneOn 12 (some .long) :: BT) ({ frames := 1, cells := 0, slots := 0, locals := 27 }) (PC A ad [.int a0, .ref (ad j1), .long a2, .int a3]) (vp_Sl (fun r => r = q_Steps_fromOneOn a0 j1 a2 a3)) 0 0 (fun _ => False) := by
  refine pm_ (by decide +kernel) (Nat.le_of_ble_eq_true rfl) ?_
  intro p e s m below meth c hq hr hk ls hl
  have hx := hq.1
  have hb := hq.2.1
  have hts := hq.2.2.2.2.1
  have hl : lv_has ls 12 [(0, .int a0), (1, .ref (ad j1)), (2, .long a2), (4, .int a3)] := hl
  refine lv_lconst (v := (1 : Int64)) hx hb d_Steps_fromOneOn_0 (by decide) ?_
  refine lv_iload hx hb d_Steps_fromOneOn_1 (lv_at hl 3 rfl) ?_
  refine lv_lshl (v := (shl_ (1 : Int64) a3)) hx hb d_Steps_fromOneOn_3 rfl ?_
  refine lv_lstore (lv' := [(5, .long (shl_ (1 : Int64) a3)), (0, .int a0), (1, .ref (ad j1)), (2, .long a2), (4, .int a3)]) hx hb d_Steps_fromOneOn_4 hl (by decide) rfl (fun ls hl => ?_)
  refine lv_lload_n hx hb d_Steps_fromOneOn_6 rfl (lv_at hl 3 rfl) ?_
  refine lv_lload hx hb d_Steps_fromOneOn_7 (lv_at hl 0 rfl) ?_
  refine lv_lconst (v := (1 : Int64)) hx hb d_Steps_fromOneOn_9 (by decide) ?_
  refine lv_lsub hx hb d_Steps_fromOneOn_10 ?_
  refine lv_land hx hb d_Steps_fromOneOn_11 ?_
  refine lv_lstore (lv' := [(7, .long (a2 &&& ((shl_ (1 : Int64) a3) - (1 : Int64)))), (5, .long (shl_ (1 : Int64) a3)), (0, .int a0), (1, .ref (ad j1)), (2, .long a2), (4, .int a3)]) hx hb d_Steps_fromOneOn_12 hl (by decide) rfl (fun ls hl => ?_)
  refine lv_lload_n hx hb d_Steps_fromOneOn_14 rfl (lv_at hl 4 rfl) ?_
  refine lv_lload hx hb d_Steps_fromOneOn_15 (lv_at hl 0 rfl) ?_
  refine lv_lsub hx hb d_Steps_fromOneOn_17 ?_
  refine lv_lstore (lv' := [(9, .long (a2 - (a2 &&& ((shl_ (1 : Int64) a3) - (1 : Int64))))), (7, .long (a2 &&& ((shl_ (1 : Int64) a3) - (1 : Int64)))), (5, .long (shl_ (1 : Int64) a3)), (0, .int a0), (1, .ref (ad j1)), (2, .long a2), (4, .int a3)]) hx hb d_Steps_fromOneOn_18 hl (by decide) rfl (fun ls hl => ?_)
  refine lv_lload hx hb d_Steps_fromOneOn_20 (lv_at hl 1 rfl) ?_
  refine lv_lconst (v := (0 : Int64)) hx hb d_Steps_fromOneOn_22 (by decide) ?_
  refine W.lcmp hx hb d_Steps_fromOneOn_23 ?_
  refine lv_if_ne (tgt := 29) hx hb d_Steps_fromOneOn_24 (by decide) (fun c_1 => ?_) (fun c_1 => ?_)
  · rw [lg_cmp_eq] at c_1
    refine lv_iload_n hx hb d_Steps_fromOneOn_29 rfl (lv_at hl 3 rfl) ?_
    refine lv_sipush (v := (144 : Int32)) hx hb d_Steps_fromOneOn_30 (by decide) ?_
    refine lv_icmp_ne (tgt := 48) hx hb d_Steps_fromOneOn_33 (by decide) (fun c_2 => ?_) (fun c_2 => ?_)
    · refine lv_iload_n hx hb d_Steps_fromOneOn_48 rfl (lv_at hl 3 rfl) ?_
      refine lv_aload_n hx hb d_Steps_fromOneOn_49 rfl (lv_at hl 4 rfl) ?_
      refine lv_lload_n hx hb d_Steps_fromOneOn_50 rfl (lv_at hl 5 rfl) ?_
      refine vl_ (As := [.long a2]) (rest := [.int a0]) hq hj1 (c_Form_sign l A ad j1 hj1 a2) kB_Form_sign wd_155 ⟨rfl, rfl, Nat.le_of_ble_eq_true rfl, Nat.le_of_ble_eq_true rfl⟩ rfl hl.1 rfl (Nat.le_of_ble_eq_true rfl) d_Steps_fromOneOn_51 ⟨Nat.zero_le _, Nat.zero_le _⟩ ?_
      refine si_ (As := [.int a0, .long (q_Form_sign j1 a2)]) (rest := []) hq (c_Steps_goesAway l A ad a0 (q_Form_sign j1 a2)) kB_Steps_goesAway wd_156 ⟨rfl, rfl, Nat.le_of_ble_eq_true rfl, Nat.le_of_ble_eq_true rfl⟩ rfl hl.1 rfl (Nat.le_of_ble_eq_true rfl) d_Steps_fromOneOn_54 ⟨Nat.zero_le _, Nat.zero_le _⟩ ?_
      refine lv_istore (lv' := [(11, .int (q_Steps_goesAway a0 (q_Form_sign j1 a2))), (9, .long (a2 - (a2 &&& ((shl_ (1 : Int64) a3) - (1 : Int64))))), (7, .long (a2 &&& ((shl_ (1 : Int64) a3) - (1 : Int64)))), (5, .long (shl_ (1 : Int64) a3)), (0, .int a0), (1, .ref (ad j1)), (2, .long a2), (4, .int a3)]) hx hb d_Steps_fromOneOn_57 hl (by decide) rfl (fun ls hl => ?_)
      refine lv_iload hx hb d_Steps_fromOneOn_59 (lv_at hl 0 rfl) ?_
      refine lv_if_eq (tgt := 72) hx hb d_Steps_fromOneOn_61 (by decide) (fun c_3 => ?_) (fun c_3 => ?_)
      · refine lv_lload hx hb d_Steps_fromOneOn_72 (lv_at hl 1 rfl) ?_
        exact rl_ hx hb hr hk (by rw [q_Steps_fromOneOn, if_neg c_1, if_neg c_2, if_pos c_3]) d_Steps_fromOneOn_74
      · refine lv_lload hx hb d_Steps_fromOneOn_64 (lv_at hl 1 rfl) ?_
        refine lv_lload hx hb d_Steps_fromOneOn_66 (lv_at hl 3 rfl) ?_
        refine lv_ladd hx hb d_Steps_fromOneOn_68 ?_
        refine lv_goto (tgt := 74) hx hb d_Steps_fromOneOn_69 (by decide) ?_
        exact rl_ hx hb hr hk (by rw [q_Steps_fromOneOn, if_neg c_1, if_neg c_2, if_neg c_3]) d_Steps_fromOneOn_74
    · refine lv_lload hx hb d_Steps_fromOneOn_36 (lv_at hl 0 rfl) ?_
      refine lv_lload hx hb d_Steps_fromOneOn_38 (lv_at hl 1 rfl) ?_
      refine lv_lload hx hb d_Steps_fromOneOn_40 (lv_at hl 2 rfl) ?_
      refine si_ (As := [.long (a2 - (a2 &&& ((shl_ (1 : Int64) a3) - (1 : Int64)))), .long (a2 &&& ((shl_ (1 : Int64) a3) - (1 : Int64))), .long (shl_ (1 : Int64) a3)]) (rest := []) hq (c_Steps_isNearerAway l A ad (a2 - (a2 &&& ((shl_ (1 : Int64) a3) - (1 : Int64)))) (a2 &&& ((shl_ (1 : Int64) a3) - (1 : Int64))) (shl_ (1 : Int64) a3)) kB_Steps_isNearerAway wd_157 ⟨rfl, rfl, Nat.le_of_ble_eq_true rfl, Nat.le_of_ble_eq_true rfl⟩ rfl hl.1 rfl (Nat.le_of_ble_eq_true rfl) d_Steps_fromOneOn_42 ⟨Nat.zero_le _, Nat.zero_le _⟩ ?_
      refine lv_goto (tgt := 57) hx hb d_Steps_fromOneOn_45 (by decide) ?_
      refine lv_istore (lv' := [(11, .int (q_Steps_isNearerAway (a2 - (a2 &&& ((shl_ (1 : Int64) a3) - (1 : Int64)))) (a2 &&& ((shl_ (1 : Int64) a3) - (1 : Int64))) (shl_ (1 : Int64) a3))), (9, .long (a2 - (a2 &&& ((shl_ (1 : Int64) a3) - (1 : Int64))))), (7, .long (a2 &&& ((shl_ (1 : Int64) a3) - (1 : Int64)))), (5, .long (shl_ (1 : Int64) a3)), (0, .int a0), (1, .ref (ad j1)), (2, .long a2), (4, .int a3)]) hx hb d_Steps_fromOneOn_57 hl (by decide) rfl (fun ls hl => ?_)
      refine lv_iload hx hb d_Steps_fromOneOn_59 (lv_at hl 0 rfl) ?_
      refine lv_if_eq (tgt := 72) hx hb d_Steps_fromOneOn_61 (by decide) (fun c_4 => ?_) (fun c_4 => ?_)
      · refine lv_lload hx hb d_Steps_fromOneOn_72 (lv_at hl 1 rfl) ?_
        exact rl_ hx hb hr hk (by rw [q_Steps_fromOneOn, if_neg c_1, if_pos c_2, if_pos c_4]) d_Steps_fromOneOn_74
      · refine lv_lload hx hb d_Steps_fromOneOn_64 (lv_at hl 1 rfl) ?_
        refine lv_lload hx hb d_Steps_fromOneOn_66 (lv_at hl 3 rfl) ?_
        refine lv_ladd hx hb d_Steps_fromOneOn_68 ?_
        refine lv_goto (tgt := 74) hx hb d_Steps_fromOneOn_69 (by decide) ?_
        exact rl_ hx hb hr hk (by rw [q_Steps_fromOneOn, if_neg c_1, if_pos c_2, if_neg c_4]) d_Steps_fromOneOn_74
  · rw [lg_cmp_eq] at c_1
    refine lv_lload_n hx hb d_Steps_fromOneOn_27 rfl (lv_at hl 5 rfl) ?_
    exact rl_ hx hb hr hk (by rw [q_Steps_fromOneOn, if_pos c_1]) d_Steps_fromOneOn_28
def q_Steps_belowOne (a0 : Int32) (j1 : Nat) (a2 : Int64) : Int64 :=
  if a0 = (144 : Int32) then
    if (q_Form_withoutSign j1 a2) ≤ (shl_ (Int32.toInt64 ((fm_b j1) - (1 : Int32))) (fm_f j1)) then
      (q_Form_sign j1 a2)
    else
      ((q_Form_sign j1 a2) ||| (shl_ (Int32.toInt64 (fm_b j1)) (fm_f j1)))
  else
    if (q_Steps_goesAway a0 (q_Form_sign j1 a2)) = 0 then
      (q_Form_sign j1 a2)
    else
      ((q_Form_sign j1 a2) ||| (shl_ (Int32.toInt64 (fm_b j1)) (fm_f j1)))
theorem kB_Steps_belowOne : SB y_Steps_belowOne b_Steps_belowOne 11 (some .long) 3 := ⟨wd_163, wd_164, wd_152, by decide +kernel⟩
set_option maxHeartbeats 4000000 in
set_option maxRecDepth 100000 in
theorem c_Steps_belowOne (l : Launch) (A : Nat → Prop) (ad : Nat → Nat) (a0 : Int32) (j1 : Nat) (hj1 : j1 < 2) (a2 : Int64) : Met l y_Steps_belowOne (Cond.code y_Steps_belowOne b_Steps_belowOne 11 (some .long) :: BT) ({ frames := 1, cells := 0, slots := 0, locals := 22 }) (PC A ad [.int a0, .ref (ad j1), .long a2]) (vp_Sl (fun r => r = q_Steps_belowOne a0 j1 a2)) 0 0 (fun _ => False) := by
  refine pm_ (by decide +kernel) (Nat.le_of_ble_eq_true rfl) ?_
  intro p e s m below meth c hq hr hk ls hl
  have hx := hq.1
  have hb := hq.2.1
  have hts := hq.2.2.2.2.1
  have hl : lv_has ls 11 [(0, .int a0), (1, .ref (ad j1)), (2, .long a2)] := hl
  refine lv_aload_n hx hb d_Steps_belowOne_0 rfl (lv_at hl 1 rfl) ?_
  refine lv_lload_n hx hb d_Steps_belowOne_1 rfl (lv_at hl 2 rfl) ?_
  refine vl_ (As := [.long a2]) (rest := []) hq hj1 (c_Form_sign l A ad j1 hj1 a2) kB_Form_sign wd_155 ⟨rfl, rfl, Nat.le_of_ble_eq_true rfl, Nat.le_of_ble_eq_true rfl⟩ rfl hl.1 rfl (Nat.le_of_ble_eq_true rfl) d_Steps_belowOne_2 ⟨Nat.zero_le _, Nat.zero_le _⟩ ?_
  refine lv_lstore (lv' := [(4, .long (q_Form_sign j1 a2)), (0, .int a0), (1, .ref (ad j1)), (2, .long a2)]) hx hb d_Steps_belowOne_5 hl (by decide) rfl (fun ls hl => ?_)
  refine lv_aload_n hx hb d_Steps_belowOne_7 rfl (lv_at hl 2 rfl) ?_
  refine gf_b hq hj1 wd_160 d_Steps_belowOne_8 ?_
  refine lv_i2l (v := (Int32.toInt64 (fm_b j1))) hx hb d_Steps_belowOne_11 rfl ?_
  refine lv_aload_n hx hb d_Steps_belowOne_12 rfl (lv_at hl 2 rfl) ?_
  refine gf_f hq hj1 wd_161 d_Steps_belowOne_13 ?_
  refine lv_lshl (v := (shl_ (Int32.toInt64 (fm_b j1)) (fm_f j1))) hx hb d_Steps_belowOne_16 rfl ?_
  refine lv_lstore (lv' := [(6, .long (shl_ (Int32.toInt64 (fm_b j1)) (fm_f j1))), (4, .long (q_Form_sign j1 a2)), (0, .int a0), (1, .ref (ad j1)), (2, .long a2)]) hx hb d_Steps_belowOne_17 hl (by decide) rfl (fun ls hl => ?_)
  refine lv_aload_n hx hb d_Steps_belowOne_19 rfl (lv_at hl 3 rfl) ?_
  refine gf_b hq hj1 wd_160 d_Steps_belowOne_20 ?_
  refine lv_iconst (v := (1 : Int32)) hx hb d_Steps_belowOne_23 (by decide) ?_
  refine lv_isub hx hb d_Steps_belowOne_24 ?_
  refine lv_i2l (v := (Int32.toInt64 ((fm_b j1) - (1 : Int32)))) hx hb d_Steps_belowOne_25 rfl ?_
  refine lv_aload_n hx hb d_Steps_belowOne_26 rfl (lv_at hl 3 rfl) ?_
  refine gf_f hq hj1 wd_161 d_Steps_belowOne_27 ?_
  refine lv_lshl (v := (shl_ (Int32.toInt64 ((fm_b j1) - (1 : Int32))) (fm_f j1))) hx hb d_Steps_belowOne_30 rfl ?_
  refine lv_lstore (lv' := [(8, .long (shl_ (Int32.toInt64 ((fm_b j1) - (1 : Int32))) (fm_f j1))), (6, .long (shl_ (Int32.toInt64 (fm_b j1)) (fm_f j1))), (4, .long (q_Form_sign j1 a2)), (0, .int a0), (1, .ref (ad j1)), (2, .long a2)]) hx hb d_Steps_belowOne_31 hl (by decide) rfl (fun ls hl => ?_)
  refine lv_iload_n hx hb d_Steps_belowOne_33 rfl (lv_at hl 3 rfl) ?_
  refine lv_sipush (v := (144 : Int32)) hx hb d_Steps_belowOne_34 (by decide) ?_
  refine lv_icmp_ne (tgt := 59) hx hb d_Steps_belowOne_37 (by decide) (fun c_1 => ?_) (fun c_1 => ?_)
  · refine lv_iload_n hx hb d_Steps_belowOne_59 rfl (lv_at hl 3 rfl) ?_
    refine lv_lload hx hb d_Steps_belowOne_60 (lv_at hl 2 rfl) ?_
    refine si_ (As := [.int a0, .long (q_Form_sign j1 a2)]) (rest := []) hq (c_Steps_goesAway l A ad a0 (q_Form_sign j1 a2)) kB_Steps_goesAway wd_156 ⟨rfl, rfl, Nat.le_of_ble_eq_true rfl, Nat.le_of_ble_eq_true rfl⟩ rfl hl.1 rfl (Nat.le_of_ble_eq_true rfl) d_Steps_belowOne_62 ⟨Nat.zero_le _, Nat.zero_le _⟩ ?_
    refine lv_istore (lv' := [(10, .int (q_Steps_goesAway a0 (q_Form_sign j1 a2))), (8, .long (shl_ (Int32.toInt64 ((fm_b j1) - (1 : Int32))) (fm_f j1))), (6, .long (shl_ (Int32.toInt64 (fm_b j1)) (fm_f j1))), (4, .long (q_Form_sign j1 a2)), (0, .int a0), (1, .ref (ad j1)), (2, .long a2)]) hx hb d_Steps_belowOne_65 hl (by decide) rfl (fun ls hl => ?_)
    refine lv_iload hx hb d_Steps_belowOne_67 (lv_at hl 0 rfl) ?_
    refine lv_if_eq (tgt := 80) hx hb d_Steps_belowOne_69 (by decide) (fun c_2 => ?_) (fun c_2 => ?_)
    · refine lv_lload hx hb d_Steps_belowOne_80 (lv_at hl 3 rfl) ?_
      exact rl_ hx hb hr hk (by rw [q_Steps_belowOne, if_neg c_1, if_pos c_2]) d_Steps_belowOne_82
    · refine lv_lload hx hb d_Steps_belowOne_72 (lv_at hl 3 rfl) ?_
      refine lv_lload hx hb d_Steps_belowOne_74 (lv_at hl 2 rfl) ?_
      refine lv_lor hx hb d_Steps_belowOne_76 ?_
      refine lv_goto (tgt := 82) hx hb d_Steps_belowOne_77 (by decide) ?_
      exact rl_ hx hb hr hk (by rw [q_Steps_belowOne, if_neg c_1, if_neg c_2]) d_Steps_belowOne_82
  · refine lv_aload_n hx hb d_Steps_belowOne_40 rfl (lv_at hl 4 rfl) ?_
    refine lv_lload_n hx hb d_Steps_belowOne_41 rfl (lv_at hl 5 rfl) ?_
    refine vl_ (As := [.long a2]) (rest := []) hq hj1 (c_Form_withoutSign l A ad j1 hj1 a2) kB_Form_withoutSign wd_162 ⟨rfl, rfl, Nat.le_of_ble_eq_true rfl, Nat.le_of_ble_eq_true rfl⟩ rfl hl.1 rfl (Nat.le_of_ble_eq_true rfl) d_Steps_belowOne_42 ⟨Nat.zero_le _, Nat.zero_le _⟩ ?_
    refine lv_lload hx hb d_Steps_belowOne_45 (lv_at hl 0 rfl) ?_
    refine W.lcmp hx hb d_Steps_belowOne_47 ?_
    refine lv_if_le (tgt := 55) hx hb d_Steps_belowOne_48 (by decide) (fun c_3 => ?_) (fun c_3 => ?_)
    · rw [lg_cmp_le] at c_3
      refine lv_iconst (v := (0 : Int32)) hx hb d_Steps_belowOne_55 (by decide) ?_
      refine lv_goto (tgt := 65) hx hb d_Steps_belowOne_56 (by decide) ?_
      refine lv_istore (lv' := [(10, .int (0 : Int32)), (8, .long (shl_ (Int32.toInt64 ((fm_b j1) - (1 : Int32))) (fm_f j1))), (6, .long (shl_ (Int32.toInt64 (fm_b j1)) (fm_f j1))), (4, .long (q_Form_sign j1 a2)), (0, .int a0), (1, .ref (ad j1)), (2, .long a2)]) hx hb d_Steps_belowOne_65 hl (by decide) rfl (fun ls hl => ?_)
      refine lv_iload hx hb d_Steps_belowOne_67 (lv_at hl 0 rfl) ?_
      refine lv_if_eq (tgt := 80) hx hb d_Steps_belowOne_69 (by decide) (fun _ => ?_) (fun c => absurd (by decide) c)
      refine lv_lload hx hb d_Steps_belowOne_80 (lv_at hl 3 rfl) ?_
      exact rl_ hx hb hr hk (by rw [q_Steps_belowOne, if_pos c_1, if_pos c_3]) d_Steps_belowOne_82
    · rw [lg_cmp_le] at c_3
      refine lv_iconst (v := (1 : Int32)) hx hb d_Steps_belowOne_51 (by decide) ?_
      refine lv_goto (tgt := 65) hx hb d_Steps_belowOne_52 (by decide) ?_
      refine lv_istore (lv' := [(10, .int (1 : Int32)), (8, .long (shl_ (Int32.toInt64 ((fm_b j1) - (1 : Int32))) (fm_f j1))), (6, .long (shl_ (Int32.toInt64 (fm_b j1)) (fm_f j1))), (4, .long (q_Form_sign j1 a2)), (0, .int a0), (1, .ref (ad j1)), (2, .long a2)]) hx hb d_Steps_belowOne_65 hl (by decide) rfl (fun ls hl => ?_)
      refine lv_iload hx hb d_Steps_belowOne_67 (lv_at hl 0 rfl) ?_
      refine lv_if_eq (tgt := 80) hx hb d_Steps_belowOne_69 (by decide) (fun c => absurd c (by decide)) (fun _ => ?_)
      refine lv_lload hx hb d_Steps_belowOne_72 (lv_at hl 3 rfl) ?_
      refine lv_lload hx hb d_Steps_belowOne_74 (lv_at hl 2 rfl) ?_
      refine lv_lor hx hb d_Steps_belowOne_76 ?_
      refine lv_goto (tgt := 82) hx hb d_Steps_belowOne_77 (by decide) ?_
      exact rl_ hx hb hr hk (by rw [q_Steps_belowOne, if_pos c_1, if_neg c_3]) d_Steps_belowOne_82
def q_Steps_toWhole (a0 : Int32) (j1 : Nat) (a2 : Int64) : Int64 :=
  if ((fm_f j1) - ((q_Form_exponent j1 a2) - (fm_b j1))) ≤ 0 then
    a2
  else
    if (q_Form_isZero j1 a2) = 0 then
      if ((fm_f j1) - ((q_Form_exponent j1 a2) - (fm_b j1))) ≤ (fm_f j1) then
        (q_Steps_fromOneOn a0 j1 a2 ((fm_f j1) - ((q_Form_exponent j1 a2) - (fm_b j1))))
      else
        (q_Steps_belowOne a0 j1 a2)
    else
      a2
theorem kB_Steps_toWhole : SB y_Steps_toWhole b_Steps_toWhole 5 (some .long) 3 := ⟨wd_169, wd_170, wd_152, by decide +kernel⟩
set_option maxHeartbeats 4000000 in
set_option maxRecDepth 100000 in
theorem c_Steps_toWhole (l : Launch) (A : Nat → Prop) (ad : Nat → Nat) (a0 : Int32) (j1 : Nat) (hj1 : j1 < 2) (a2 : Int64) : Met l y_Steps_toWhole (Cond.code y_Steps_toWhole b_Steps_toWhole 5 (some .long) :: BT) ({ frames := 2, cells := 0, slots := 0, locals := 58 }) (PC A ad [.int a0, .ref (ad j1), .long a2]) (vp_Sl (fun r => r = q_Steps_toWhole a0 j1 a2)) 0 0 (fun _ => False) := by
  refine pm_ (by decide +kernel) (Nat.le_of_ble_eq_true rfl) ?_
  intro p e s m below meth c hq hr hk ls hl
  have hx := hq.1
  have hb := hq.2.1
  have hts := hq.2.2.2.2.1
  have hl : lv_has ls 5 [(0, .int a0), (1, .ref (ad j1)), (2, .long a2)] := hl
  refine lv_aload_n hx hb d_Steps_toWhole_0 rfl (lv_at hl 1 rfl) ?_
  refine gf_f hq hj1 wd_161 d_Steps_toWhole_1 ?_
  refine lv_aload_n hx hb d_Steps_toWhole_4 rfl (lv_at hl 1 rfl) ?_
  refine lv_lload_n hx hb d_Steps_toWhole_5 rfl (lv_at hl 2 rfl) ?_
  refine vi_ (As := [.long a2]) (rest := [.int (fm_f j1)]) hq hj1 (c_Form_exponent l A ad j1 hj1 a2) kB_Form_exponent wd_165 ⟨rfl, rfl, Nat.le_of_ble_eq_true rfl, Nat.le_of_ble_eq_true rfl⟩ rfl hl.1 rfl (Nat.le_of_ble_eq_true rfl) d_Steps_toWhole_6 ⟨Nat.zero_le _, Nat.zero_le _⟩ ?_
  refine lv_aload_n hx hb d_Steps_toWhole_9 rfl (lv_at hl 1 rfl) ?_
  refine gf_b hq hj1 wd_160 d_Steps_toWhole_10 ?_
  refine lv_isub hx hb d_Steps_toWhole_13 ?_
  refine lv_isub hx hb d_Steps_toWhole_14 ?_
  refine lv_istore (lv' := [(4, .int ((fm_f j1) - ((q_Form_exponent j1 a2) - (fm_b j1)))), (0, .int a0), (1, .ref (ad j1)), (2, .long a2)]) hx hb d_Steps_toWhole_15 hl (by decide) rfl (fun ls hl => ?_)
  refine lv_iload hx hb d_Steps_toWhole_17 (lv_at hl 0 rfl) ?_
  refine lv_if_le (tgt := 30) hx hb d_Steps_toWhole_19 (by decide) (fun c_1 => ?_) (fun c_1 => ?_)
  · refine lv_lload_n hx hb d_Steps_toWhole_30 rfl (lv_at hl 3 rfl) ?_
    exact rl_ hx hb hr hk (by rw [q_Steps_toWhole, if_pos c_1]) d_Steps_toWhole_31
  · refine lv_aload_n hx hb d_Steps_toWhole_22 rfl (lv_at hl 2 rfl) ?_
    refine lv_lload_n hx hb d_Steps_toWhole_23 rfl (lv_at hl 3 rfl) ?_
    refine vi_ (As := [.long a2]) (rest := []) hq hj1 (c_Form_isZero l A ad j1 hj1 a2) kB_Form_isZero wd_166 ⟨rfl, rfl, Nat.le_of_ble_eq_true rfl, Nat.le_of_ble_eq_true rfl⟩ rfl hl.1 rfl (Nat.le_of_ble_eq_true rfl) d_Steps_toWhole_24 ⟨Nat.zero_le _, Nat.zero_le _⟩ ?_
    refine lv_if_eq (tgt := 32) hx hb d_Steps_toWhole_27 (by decide) (fun c_2 => ?_) (fun c_2 => ?_)
    · refine lv_iload hx hb d_Steps_toWhole_32 (lv_at hl 0 rfl) ?_
      refine lv_aload_n hx hb d_Steps_toWhole_34 rfl (lv_at hl 2 rfl) ?_
      refine gf_f hq hj1 wd_161 d_Steps_toWhole_35 ?_
      refine lv_icmp_le (tgt := 50) hx hb d_Steps_toWhole_38 (by decide) (fun c_3 => ?_) (fun c_3 => ?_)
      · refine lv_iload_n hx hb d_Steps_toWhole_50 rfl (lv_at hl 1 rfl) ?_
        refine lv_aload_n hx hb d_Steps_toWhole_51 rfl (lv_at hl 2 rfl) ?_
        refine lv_lload_n hx hb d_Steps_toWhole_52 rfl (lv_at hl 3 rfl) ?_
        refine lv_iload hx hb d_Steps_toWhole_53 (lv_at hl 0 rfl) ?_
        refine sl_ (As := [.int a0, .ref (ad j1), .long a2, .int ((fm_f j1) - ((q_Form_exponent j1 a2) - (fm_b j1)))]) (rest := []) hq (c_Steps_fromOneOn l A ad a0 j1 hj1 a2 ((fm_f j1) - ((q_Form_exponent j1 a2) - (fm_b j1)))) kB_Steps_fromOneOn wd_167 ⟨rfl, rfl, Nat.le_of_ble_eq_true rfl, Nat.le_of_ble_eq_true rfl⟩ rfl hl.1 rfl (Nat.le_of_ble_eq_true rfl) d_Steps_toWhole_55 ⟨Nat.zero_le _, Nat.zero_le _⟩ ?_
        exact rl_ hx hb hr hk (by rw [q_Steps_toWhole, if_neg c_1, if_pos c_2, if_pos c_3]) d_Steps_toWhole_58
      · refine lv_iload_n hx hb d_Steps_toWhole_41 rfl (lv_at hl 1 rfl) ?_
        refine lv_aload_n hx hb d_Steps_toWhole_42 rfl (lv_at hl 2 rfl) ?_
        refine lv_lload_n hx hb d_Steps_toWhole_43 rfl (lv_at hl 3 rfl) ?_
        refine sl_ (As := [.int a0, .ref (ad j1), .long a2]) (rest := []) hq (c_Steps_belowOne l A ad a0 j1 hj1 a2) kB_Steps_belowOne wd_168 ⟨rfl, rfl, Nat.le_of_ble_eq_true rfl, Nat.le_of_ble_eq_true rfl⟩ rfl hl.1 rfl (Nat.le_of_ble_eq_true rfl) d_Steps_toWhole_44 ⟨Nat.zero_le _, Nat.zero_le _⟩ ?_
        refine lv_goto (tgt := 58) hx hb d_Steps_toWhole_47 (by decide) ?_
        exact rl_ hx hb hr hk (by rw [q_Steps_toWhole, if_neg c_1, if_pos c_2, if_neg c_3]) d_Steps_toWhole_58
    · refine lv_lload_n hx hb d_Steps_toWhole_30 rfl (lv_at hl 3 rfl) ?_
      exact rl_ hx hb hr hk (by rw [q_Steps_toWhole, if_neg c_1, if_neg c_2]) d_Steps_toWhole_31
end
section
def q_Conversions_fromUnsigned (j0 : Nat) (a1 : Int64) : Int64 :=
  if a1 = (0 : Int64) then
    (0 : Int64)
  else
    (q_Form_rounded j0 (0 : Int64) a1 (0 : Int32))
theorem kB_Conversions_fromUnsigned : SB y_Conversions_fromUnsigned b_Conversions_fromUnsigned 3 (some .long) 2 := ⟨wd_172, wd_173, wd_174, by decide +kernel⟩
set_option maxHeartbeats 4000000 in
set_option maxRecDepth 100000 in
theorem c_Conversions_fromUnsigned (l : Launch) (A : Nat → Prop) (ad : Nat → Nat) (j0 : Nat) (hj0 : j0 < 2) (a1 : Int64) : Met l y_Conversions_fromUnsigned (Cond.code y_Conversions_fromUnsigned b_Conversions_fromUnsigned 3 (some .long) :: BT) ({ frames := 3, cells := 0, slots := 0, locals := 78 }) (PC A ad [.ref (ad j0), .long a1]) (vp_Sl (fun r => r = q_Conversions_fromUnsigned j0 a1)) 0 0 (fun _ => False) := by
  refine pm_ (by decide +kernel) (Nat.le_of_ble_eq_true rfl) ?_
  intro p e s m below meth c hq hr hk ls hl
  have hx := hq.1
  have hb := hq.2.1
  have hts := hq.2.2.2.2.1
  have hl : lv_has ls 3 [(0, .ref (ad j0)), (1, .long a1)] := hl
  refine lv_lload_n hx hb d_Conversions_fromUnsigned_0 rfl (lv_at hl 1 rfl) ?_
  refine lv_lconst (v := (0 : Int64)) hx hb d_Conversions_fromUnsigned_1 (by decide) ?_
  refine W.lcmp hx hb d_Conversions_fromUnsigned_2 ?_
  refine lv_if_ne (tgt := 10) hx hb d_Conversions_fromUnsigned_3 (by decide) (fun c_1 => ?_) (fun c_1 => ?_)
  · rw [lg_cmp_eq] at c_1
    refine lv_aload_n hx hb d_Conversions_fromUnsigned_10 rfl (lv_at hl 0 rfl) ?_
    refine lv_lconst (v := (0 : Int64)) hx hb d_Conversions_fromUnsigned_11 (by decide) ?_
    refine lv_lload_n hx hb d_Conversions_fromUnsigned_12 rfl (lv_at hl 1 rfl) ?_
    refine lv_iconst (v := (0 : Int32)) hx hb d_Conversions_fromUnsigned_13 (by decide) ?_
    refine vl_ (As := [.long (0 : Int64), .long a1, .int (0 : Int32)]) (rest := []) hq hj0 (c_Form_rounded l A ad j0 hj0 (0 : Int64) a1 (0 : Int32)) kB_Form_rounded wd_171 ⟨rfl, rfl, Nat.le_of_ble_eq_true rfl, Nat.le_of_ble_eq_true rfl⟩ rfl hl.1 rfl (Nat.le_of_ble_eq_true rfl) d_Conversions_fromUnsigned_14 ⟨Nat.zero_le _, Nat.zero_le _⟩ ?_
    exact rl_ hx hb hr hk (by rw [q_Conversions_fromUnsigned, if_neg c_1]) d_Conversions_fromUnsigned_17
  · rw [lg_cmp_eq] at c_1
    refine lv_lconst (v := (0 : Int64)) hx hb d_Conversions_fromUnsigned_6 (by decide) ?_
    refine lv_goto (tgt := 17) hx hb d_Conversions_fromUnsigned_7 (by decide) ?_
    exact rl_ hx hb hr hk (by rw [q_Conversions_fromUnsigned, if_pos c_1]) d_Conversions_fromUnsigned_17
def q_Conversions_fromSigned (j0 : Nat) (a1 : Int64) : Int64 :=
  if (0 : Int64) ≤ a1 then
    (q_Conversions_fromUnsigned j0 a1)
  else
    (q_Form_rounded j0 (fm_s j0) (-a1) (0 : Int32))
theorem kB_Conversions_fromSigned : SB y_Conversions_fromSigned b_Conversions_fromSigned 3 (some .long) 2 := ⟨wd_177, wd_178, wd_174, by decide +kernel⟩
set_option maxHeartbeats 4000000 in
set_option maxRecDepth 100000 in
theorem c_Conversions_fromSigned (l : Launch) (A : Nat → Prop) (ad : Nat → Nat) (j0 : Nat) (hj0 : j0 < 2) (a1 : Int64) : Met l y_Conversions_fromSigned (Cond.code y_Conversions_fromSigned b_Conversions_fromSigned 3 (some .long) :: BT) ({ frames := 4, cells := 0, slots := 0, locals := 100 }) (PC A ad [.ref (ad j0), .long a1]) (vp_Sl (fun r => r = q_Conversions_fromSigned j0 a1)) 0 0 (fun _ => False) := by
  refine pm_ (by decide +kernel) (Nat.le_of_ble_eq_true rfl) ?_
  intro p e s m below meth c hq hr hk ls hl
  have hx := hq.1
  have hb := hq.2.1
  have hts := hq.2.2.2.2.1
  have hl : lv_has ls 3 [(0, .ref (ad j0)), (1, .long a1)] := hl
  refine lv_lload_n hx hb d_Conversions_fromSigned_0 rfl (lv_at hl 1 rfl) ?_
  refine lv_lconst (v := (0 : Int64)) hx hb d_Conversions_fromSigned_1 (by decide) ?_
  refine W.lcmp hx hb d_Conversions_fromSigned_2 ?_
  refine lv_if_ge (tgt := 20) hx hb d_Conversions_fromSigned_3 (by decide) (fun c_1 => ?_) (fun c_1 => ?_)
  · rw [lg_cmp_ge] at c_1
    refine lv_aload_n hx hb d_Conversions_fromSigned_20 rfl (lv_at hl 0 rfl) ?_
    refine lv_lload_n hx hb d_Conversions_fromSigned_21 rfl (lv_at hl 1 rfl) ?_
    refine sl_ (As := [.ref (ad j0), .long a1]) (rest := []) hq (c_Conversions_fromUnsigned l A ad j0 hj0 a1) kB_Conversions_fromUnsigned wd_175 ⟨rfl, rfl, Nat.le_of_ble_eq_true rfl, Nat.le_of_ble_eq_true rfl⟩ rfl hl.1 rfl (Nat.le_of_ble_eq_true rfl) d_Conversions_fromSigned_22 ⟨Nat.zero_le _, Nat.zero_le _⟩ ?_
    exact rl_ hx hb hr hk (by rw [q_Conversions_fromSigned, if_pos c_1]) d_Conversions_fromSigned_25
  · rw [lg_cmp_ge] at c_1
    refine lv_aload_n hx hb d_Conversions_fromSigned_6 rfl (lv_at hl 0 rfl) ?_
    refine lv_aload_n hx hb d_Conversions_fromSigned_7 rfl (lv_at hl 0 rfl) ?_
    refine gf_s hq hj0 wd_176 d_Conversions_fromSigned_8 ?_
    refine lv_lload_n hx hb d_Conversions_fromSigned_11 rfl (lv_at hl 1 rfl) ?_
    refine lv_lneg hx hb d_Conversions_fromSigned_12 ?_
    refine lv_iconst (v := (0 : Int32)) hx hb d_Conversions_fromSigned_13 (by decide) ?_
    refine vl_ (As := [.long (fm_s j0), .long (-a1), .int (0 : Int32)]) (rest := []) hq hj0 (c_Form_rounded l A ad j0 hj0 (fm_s j0) (-a1) (0 : Int32)) kB_Form_rounded wd_171 ⟨rfl, rfl, Nat.le_of_ble_eq_true rfl, Nat.le_of_ble_eq_true rfl⟩ rfl hl.1 rfl (Nat.le_of_ble_eq_true rfl) d_Conversions_fromSigned_14 ⟨Nat.zero_le _, Nat.zero_le _⟩ ?_
    refine lv_goto (tgt := 25) hx hb d_Conversions_fromSigned_17 (by decide) ?_
    exact rl_ hx hb hr hk (by rw [q_Conversions_fromSigned, if_neg c_1]) d_Conversions_fromSigned_25
def q_Conversions_fromFloat (j0 : Nat) (a1 : Int64) (j2 : Nat) : Int64 :=
  if (q_Form_isNoNumber j0 a1) = 0 then
    if (q_Form_sign j0 a1) = (0 : Int64) then
      if (q_Form_isInfinite j0 a1) = 0 then
        if (q_Form_isZero j0 a1) = 0 then
          (q_Form_rounded j2 (0 : Int64) (q_Form_significand j0 a1) (q_Form_scale j0 a1))
        else
          (0 : Int64)
      else
        ((0 : Int64) ||| (fm_i j2))
    else
      if (q_Form_isInfinite j0 a1) = 0 then
        if (q_Form_isZero j0 a1) = 0 then
          (q_Form_rounded j2 (fm_s j2) (q_Form_significand j0 a1) (q_Form_scale j0 a1))
        else
          (fm_s j2)
      else
        ((fm_s j2) ||| (fm_i j2))
  else
    (fm_n j2)
theorem kB_Conversions_fromFloat : SB y_Conversions_fromFloat b_Conversions_fromFloat 6 (some .long) 3 := ⟨wd_187, wd_188, wd_174, by decide +kernel⟩
set_option maxHeartbeats 4000000 in
set_option maxRecDepth 100000 in
theorem c_Conversions_fromFloat (l : Launch) (A : Nat → Prop) (ad : Nat → Nat) (j0 : Nat) (hj0 : j0 < 2) (a1 : Int64) (j2 : Nat) (hj2 : j2 < 2) : Met l y_Conversions_fromFloat (Cond.code y_Conversions_fromFloat b_Conversions_fromFloat 6 (some .long) :: BT) ({ frames := 3, cells := 0, slots := 0, locals := 78 }) (PC A ad [.ref (ad j0), .long a1, .ref (ad j2)]) (vp_Sl (fun r => r = q_Conversions_fromFloat j0 a1 j2)) 0 0 (fun _ => False) := by
  refine pm_ (by decide +kernel) (Nat.le_of_ble_eq_true rfl) ?_
  intro p e s m below meth c hq hr hk ls hl
  have hx := hq.1
  have hb := hq.2.1
  have hts := hq.2.2.2.2.1
  have hl : lv_has ls 6 [(0, .ref (ad j0)), (1, .long a1), (3, .ref (ad j2))] := hl
  refine lv_aload_n hx hb d_Conversions_fromFloat_0 rfl (lv_at hl 0 rfl) ?_
  refine lv_lload_n hx hb d_Conversions_fromFloat_1 rfl (lv_at hl 1 rfl) ?_
  refine vi_ (As := [.long a1]) (rest := []) hq hj0 (c_Form_isNoNumber l A ad j0 hj0 a1) kB_Form_isNoNumber wd_179 ⟨rfl, rfl, Nat.le_of_ble_eq_true rfl, Nat.le_of_ble_eq_true rfl⟩ rfl hl.1 rfl (Nat.le_of_ble_eq_true rfl) d_Conversions_fromFloat_2 ⟨Nat.zero_le _, Nat.zero_le _⟩ ?_
  refine lv_if_eq (tgt := 13) hx hb d_Conversions_fromFloat_5 (by decide) (fun c_1 => ?_) (fun c_1 => ?_)
  · refine lv_aload_n hx hb d_Conversions_fromFloat_13 rfl (lv_at hl 0 rfl) ?_
    refine lv_lload_n hx hb d_Conversions_fromFloat_14 rfl (lv_at hl 1 rfl) ?_
    refine vl_ (As := [.long a1]) (rest := []) hq hj0 (c_Form_sign l A ad j0 hj0 a1) kB_Form_sign wd_180 ⟨rfl, rfl, Nat.le_of_ble_eq_true rfl, Nat.le_of_ble_eq_true rfl⟩ rfl hl.1 rfl (Nat.le_of_ble_eq_true rfl) d_Conversions_fromFloat_15 ⟨Nat.zero_le _, Nat.zero_le _⟩ ?_
    refine lv_lconst (v := (0 : Int64)) hx hb d_Conversions_fromFloat_18 (by decide) ?_
    refine W.lcmp hx hb d_Conversions_fromFloat_19 ?_
    refine lv_if_ne (tgt := 27) hx hb d_Conversions_fromFloat_20 (by decide) (fun c_2 => ?_) (fun c_2 => ?_)
    · rw [lg_cmp_eq] at c_2
      refine lv_aload_n hx hb d_Conversions_fromFloat_27 rfl (lv_at hl 2 rfl) ?_
      refine gf_s hq hj2 wd_176 d_Conversions_fromFloat_28 ?_
      refine lv_lstore (lv' := [(4, .long (fm_s j2)), (0, .ref (ad j0)), (1, .long a1), (3, .ref (ad j2))]) hx hb d_Conversions_fromFloat_31 hl (by decide) rfl (fun ls hl => ?_)
      refine lv_aload_n hx hb d_Conversions_fromFloat_33 rfl (lv_at hl 1 rfl) ?_
      refine lv_lload_n hx hb d_Conversions_fromFloat_34 rfl (lv_at hl 2 rfl) ?_
      refine vi_ (As := [.long a1]) (rest := []) hq hj0 (c_Form_isInfinite l A ad j0 hj0 a1) kB_Form_isInfinite wd_181 ⟨rfl, rfl, Nat.le_of_ble_eq_true rfl, Nat.le_of_ble_eq_true rfl⟩ rfl hl.1 rfl (Nat.le_of_ble_eq_true rfl) d_Conversions_fromFloat_35 ⟨Nat.zero_le _, Nat.zero_le _⟩ ?_
      refine lv_if_eq (tgt := 49) hx hb d_Conversions_fromFloat_38 (by decide) (fun c_3 => ?_) (fun c_3 => ?_)
      · refine lv_aload_n hx hb d_Conversions_fromFloat_49 rfl (lv_at hl 1 rfl) ?_
        refine lv_lload_n hx hb d_Conversions_fromFloat_50 rfl (lv_at hl 2 rfl) ?_
        refine vi_ (As := [.long a1]) (rest := []) hq hj0 (c_Form_isZero l A ad j0 hj0 a1) kB_Form_isZero wd_182 ⟨rfl, rfl, Nat.le_of_ble_eq_true rfl, Nat.le_of_ble_eq_true rfl⟩ rfl hl.1 rfl (Nat.le_of_ble_eq_true rfl) d_Conversions_fromFloat_51 ⟨Nat.zero_le _, Nat.zero_le _⟩ ?_
        refine lv_if_eq (tgt := 60) hx hb d_Conversions_fromFloat_54 (by decide) (fun c_4 => ?_) (fun c_4 => ?_)
        · refine lv_aload_n hx hb d_Conversions_fromFloat_60 rfl (lv_at hl 3 rfl) ?_
          refine lv_lload hx hb d_Conversions_fromFloat_61 (lv_at hl 0 rfl) ?_
          refine lv_aload_n hx hb d_Conversions_fromFloat_63 rfl (lv_at hl 1 rfl) ?_
          refine lv_lload_n hx hb d_Conversions_fromFloat_64 rfl (lv_at hl 2 rfl) ?_
          refine vl_ (As := [.long a1]) (rest := [.long (fm_s j2), .ref (ad j2)]) hq hj0 (c_Form_significand l A ad j0 hj0 a1) kB_Form_significand wd_183 ⟨rfl, rfl, Nat.le_of_ble_eq_true rfl, Nat.le_of_ble_eq_true rfl⟩ rfl hl.1 rfl (Nat.le_of_ble_eq_true rfl) d_Conversions_fromFloat_65 ⟨Nat.zero_le _, Nat.zero_le _⟩ ?_
          refine lv_aload_n hx hb d_Conversions_fromFloat_68 rfl (lv_at hl 1 rfl) ?_
          refine lv_lload_n hx hb d_Conversions_fromFloat_69 rfl (lv_at hl 2 rfl) ?_
          refine vi_ (As := [.long a1]) (rest := [.long (q_Form_significand j0 a1), .long (fm_s j2), .ref (ad j2)]) hq hj0 (c_Form_scale l A ad j0 hj0 a1) kB_Form_scale wd_184 ⟨rfl, rfl, Nat.le_of_ble_eq_true rfl, Nat.le_of_ble_eq_true rfl⟩ rfl hl.1 rfl (Nat.le_of_ble_eq_true rfl) d_Conversions_fromFloat_70 ⟨Nat.zero_le _, Nat.zero_le _⟩ ?_
          refine vl_ (As := [.long (fm_s j2), .long (q_Form_significand j0 a1), .int (q_Form_scale j0 a1)]) (rest := []) hq hj2 (c_Form_rounded l A ad j2 hj2 (fm_s j2) (q_Form_significand j0 a1) (q_Form_scale j0 a1)) kB_Form_rounded wd_171 ⟨rfl, rfl, Nat.le_of_ble_eq_true rfl, Nat.le_of_ble_eq_true rfl⟩ rfl hl.1 rfl (Nat.le_of_ble_eq_true rfl) d_Conversions_fromFloat_73 ⟨Nat.zero_le _, Nat.zero_le _⟩ ?_
          exact rl_ hx hb hr hk (by rw [q_Conversions_fromFloat, if_pos c_1, if_neg c_2, if_pos c_3, if_pos c_4]) d_Conversions_fromFloat_76
        · refine lv_lload hx hb d_Conversions_fromFloat_57 (lv_at hl 0 rfl) ?_
          exact rl_ hx hb hr hk (by rw [q_Conversions_fromFloat, if_pos c_1, if_neg c_2, if_pos c_3, if_neg c_4]) d_Conversions_fromFloat_59
      · refine lv_lload hx hb d_Conversions_fromFloat_41 (lv_at hl 0 rfl) ?_
        refine lv_aload_n hx hb d_Conversions_fromFloat_43 rfl (lv_at hl 3 rfl) ?_
        refine gf_i hq hj2 wd_185 d_Conversions_fromFloat_44 ?_
        refine lv_lor hx hb d_Conversions_fromFloat_47 ?_
        exact rl_ hx hb hr hk (by rw [q_Conversions_fromFloat, if_pos c_1, if_neg c_2, if_neg c_3]) d_Conversions_fromFloat_48
    · rw [lg_cmp_eq] at c_2
      refine lv_lconst (v := (0 : Int64)) hx hb d_Conversions_fromFloat_23 (by decide) ?_
      refine lv_goto (tgt := 31) hx hb d_Conversions_fromFloat_24 (by decide) ?_
      refine lv_lstore (lv' := [(4, .long (0 : Int64)), (0, .ref (ad j0)), (1, .long a1), (3, .ref (ad j2))]) hx hb d_Conversions_fromFloat_31 hl (by decide) rfl (fun ls hl => ?_)
      refine lv_aload_n hx hb d_Conversions_fromFloat_33 rfl (lv_at hl 1 rfl) ?_
      refine lv_lload_n hx hb d_Conversions_fromFloat_34 rfl (lv_at hl 2 rfl) ?_
      refine vi_ (As := [.long a1]) (rest := []) hq hj0 (c_Form_isInfinite l A ad j0 hj0 a1) kB_Form_isInfinite wd_181 ⟨rfl, rfl, Nat.le_of_ble_eq_true rfl, Nat.le_of_ble_eq_true rfl⟩ rfl hl.1 rfl (Nat.le_of_ble_eq_true rfl) d_Conversions_fromFloat_35 ⟨Nat.zero_le _, Nat.zero_le _⟩ ?_
      refine lv_if_eq (tgt := 49) hx hb d_Conversions_fromFloat_38 (by decide) (fun c_5 => ?_) (fun c_5 => ?_)
      · refine lv_aload_n hx hb d_Conversions_fromFloat_49 rfl (lv_at hl 1 rfl) ?_
        refine lv_lload_n hx hb d_Conversions_fromFloat_50 rfl (lv_at hl 2 rfl) ?_
        refine vi_ (As := [.long a1]) (rest := []) hq hj0 (c_Form_isZero l A ad j0 hj0 a1) kB_Form_isZero wd_182 ⟨rfl, rfl, Nat.le_of_ble_eq_true rfl, Nat.le_of_ble_eq_true rfl⟩ rfl hl.1 rfl (Nat.le_of_ble_eq_true rfl) d_Conversions_fromFloat_51 ⟨Nat.zero_le _, Nat.zero_le _⟩ ?_
        refine lv_if_eq (tgt := 60) hx hb d_Conversions_fromFloat_54 (by decide) (fun c_6 => ?_) (fun c_6 => ?_)
        · refine lv_aload_n hx hb d_Conversions_fromFloat_60 rfl (lv_at hl 3 rfl) ?_
          refine lv_lload hx hb d_Conversions_fromFloat_61 (lv_at hl 0 rfl) ?_
          refine lv_aload_n hx hb d_Conversions_fromFloat_63 rfl (lv_at hl 1 rfl) ?_
          refine lv_lload_n hx hb d_Conversions_fromFloat_64 rfl (lv_at hl 2 rfl) ?_
          refine vl_ (As := [.long a1]) (rest := [.long (0 : Int64), .ref (ad j2)]) hq hj0 (c_Form_significand l A ad j0 hj0 a1) kB_Form_significand wd_183 ⟨rfl, rfl, Nat.le_of_ble_eq_true rfl, Nat.le_of_ble_eq_true rfl⟩ rfl hl.1 rfl (Nat.le_of_ble_eq_true rfl) d_Conversions_fromFloat_65 ⟨Nat.zero_le _, Nat.zero_le _⟩ ?_
          refine lv_aload_n hx hb d_Conversions_fromFloat_68 rfl (lv_at hl 1 rfl) ?_
          refine lv_lload_n hx hb d_Conversions_fromFloat_69 rfl (lv_at hl 2 rfl) ?_
          refine vi_ (As := [.long a1]) (rest := [.long (q_Form_significand j0 a1), .long (0 : Int64), .ref (ad j2)]) hq hj0 (c_Form_scale l A ad j0 hj0 a1) kB_Form_scale wd_184 ⟨rfl, rfl, Nat.le_of_ble_eq_true rfl, Nat.le_of_ble_eq_true rfl⟩ rfl hl.1 rfl (Nat.le_of_ble_eq_true rfl) d_Conversions_fromFloat_70 ⟨Nat.zero_le _, Nat.zero_le _⟩ ?_
          refine vl_ (As := [.long (0 : Int64), .long (q_Form_significand j0 a1), .int (q_Form_scale j0 a1)]) (rest := []) hq hj2 (c_Form_rounded l A ad j2 hj2 (0 : Int64) (q_Form_significand j0 a1) (q_Form_scale j0 a1)) kB_Form_rounded wd_171 ⟨rfl, rfl, Nat.le_of_ble_eq_true rfl, Nat.le_of_ble_eq_true rfl⟩ rfl hl.1 rfl (Nat.le_of_ble_eq_true rfl) d_Conversions_fromFloat_73 ⟨Nat.zero_le _, Nat.zero_le _⟩ ?_
          exact rl_ hx hb hr hk (by rw [q_Conversions_fromFloat, if_pos c_1, if_pos c_2, if_pos c_5, if_pos c_6]) d_Conversions_fromFloat_76
        · refine lv_lload hx hb d_Conversions_fromFloat_57 (lv_at hl 0 rfl) ?_
          exact rl_ hx hb hr hk (by rw [q_Conversions_fromFloat, if_pos c_1, if_pos c_2, if_pos c_5, if_neg c_6]) d_Conversions_fromFloat_59
      · refine lv_lload hx hb d_Conversions_fromFloat_41 (lv_at hl 0 rfl) ?_
        refine lv_aload_n hx hb d_Conversions_fromFloat_43 rfl (lv_at hl 3 rfl) ?_
        refine gf_i hq hj2 wd_185 d_Conversions_fromFloat_44 ?_
        refine lv_lor hx hb d_Conversions_fromFloat_47 ?_
        exact rl_ hx hb hr hk (by rw [q_Conversions_fromFloat, if_pos c_1, if_pos c_2, if_neg c_5]) d_Conversions_fromFloat_48
  · refine lv_aload_n hx hb d_Conversions_fromFloat_8 rfl (lv_at hl 2 rfl) ?_
    refine gf_n hq hj2 wd_186 d_Conversions_fromFloat_9 ?_
    exact rl_ hx hb hr hk (by rw [q_Conversions_fromFloat, if_neg c_1]) d_Conversions_fromFloat_12
def q_Conversions_toFloat (a0 : Int32) (a1 : Int64) : Int64 :=
  if a0 = (178 : Int32) then
    (q_Conversions_fromSigned 0 (q_Bits_signed (32 : Int32) a1))
  else
    if a0 = (179 : Int32) then
      (q_Conversions_fromUnsigned 0 (q_Bits_lowest (32 : Int32) a1))
    else
      if a0 = (180 : Int32) then
        (q_Conversions_fromSigned 0 a1)
      else
        if a0 = (181 : Int32) then
          (q_Conversions_fromUnsigned 0 a1)
        else
          if a0 = (182 : Int32) then
            (q_Conversions_fromFloat 1 a1 0)
          else
            if a0 = (183 : Int32) then
              (q_Conversions_fromSigned 1 (q_Bits_signed (32 : Int32) a1))
            else
              if a0 = (184 : Int32) then
                (q_Conversions_fromUnsigned 1 (q_Bits_lowest (32 : Int32) a1))
              else
                if a0 = (185 : Int32) then
                  (q_Conversions_fromSigned 1 a1)
                else
                  if a0 = (186 : Int32) then
                    (q_Conversions_fromUnsigned 1 a1)
                  else
                    (q_Conversions_fromFloat 0 (q_Bits_lowest (32 : Int32) a1) 1)
theorem kB_Conversions_toFloat : SB y_Conversions_toFloat b_Conversions_toFloat 3 (some .long) 2 := ⟨wd_195, wd_196, wd_174, by decide +kernel⟩
set_option maxHeartbeats 4000000 in
set_option maxRecDepth 100000 in
theorem c_Conversions_toFloat (l : Launch) (A : Nat → Prop) (ad : Nat → Nat) (a0 : Int32) (a1 : Int64) : Met l y_Conversions_toFloat (Cond.code y_Conversions_toFloat b_Conversions_toFloat 3 (some .long) :: BT) ({ frames := 5, cells := 0, slots := 0, locals := 122 }) (PC A ad [.int a0, .long a1]) (vp_Sl (fun r => r = q_Conversions_toFloat a0 a1)) 0 0 (fun _ => False) := by
  refine pm_ (by decide +kernel) (Nat.le_of_ble_eq_true rfl) ?_
  intro p e s m below meth c hq hr hk ls hl
  have hx := hq.1
  have hb := hq.2.1
  have hts := hq.2.2.2.2.1
  have hl : lv_has ls 3 [(0, .int a0), (1, .long a1)] := hl
  refine lv_iload_n hx hb d_Conversions_toFloat_0 rfl (lv_at hl 0 rfl) ?_
  by_cases c_1 : a0 = (178 : Int32)
  · refine lv_tableIn (tgt := 52) hx hb d_Conversions_toFloat_1 (by rw [c_1]; decide) (by rw [c_1]; decide) (by rw [c_1]; rfl) (by decide) ?_
    refine gs_0 hq wd_189 d_Conversions_toFloat_52 ?_
    refine lv_bipush (v := (32 : Int32)) hx hb d_Conversions_toFloat_55 (by decide) ?_
    refine lv_lload_n hx hb d_Conversions_toFloat_57 rfl (lv_at hl 1 rfl) ?_
    refine sl_ (As := [.int (32 : Int32), .long a1]) (rest := [.ref (ad 0)]) hq (c_Bits_signed l A ad (32 : Int32) a1) kB_Bits_signed wd_190 ⟨rfl, rfl, Nat.le_of_ble_eq_true rfl, Nat.le_of_ble_eq_true rfl⟩ rfl hl.1 rfl (Nat.le_of_ble_eq_true rfl) d_Conversions_toFloat_58 ⟨Nat.zero_le _, Nat.zero_le _⟩ ?_
    refine sl_ (As := [.ref (ad 0), .long (q_Bits_signed (32 : Int32) a1)]) (rest := []) hq (c_Conversions_fromSigned l A ad 0 (by decide) (q_Bits_signed (32 : Int32) a1)) kB_Conversions_fromSigned wd_191 ⟨rfl, rfl, Nat.le_of_ble_eq_true rfl, Nat.le_of_ble_eq_true rfl⟩ rfl hl.1 rfl (Nat.le_of_ble_eq_true rfl) d_Conversions_toFloat_61 ⟨Nat.zero_le _, Nat.zero_le _⟩ ?_
    exact rl_ hx hb hr hk (by rw [q_Conversions_toFloat, if_pos c_1]) d_Conversions_toFloat_64
  by_cases c_2 : a0 = (179 : Int32)
  · refine lv_tableIn (tgt := 65) hx hb d_Conversions_toFloat_1 (by rw [c_2]; decide) (by rw [c_2]; decide) (by rw [c_2]; rfl) (by decide) ?_
    refine gs_0 hq wd_189 d_Conversions_toFloat_65 ?_
    refine lv_bipush (v := (32 : Int32)) hx hb d_Conversions_toFloat_68 (by decide) ?_
    refine lv_lload_n hx hb d_Conversions_toFloat_70 rfl (lv_at hl 1 rfl) ?_
    refine sl_ (As := [.int (32 : Int32), .long a1]) (rest := [.ref (ad 0)]) hq (c_Bits_lowest l A ad (32 : Int32) a1) kB_Bits_lowest wd_192 ⟨rfl, rfl, Nat.le_of_ble_eq_true rfl, Nat.le_of_ble_eq_true rfl⟩ rfl hl.1 rfl (Nat.le_of_ble_eq_true rfl) d_Conversions_toFloat_71 ⟨Nat.zero_le _, Nat.zero_le _⟩ ?_
    refine sl_ (As := [.ref (ad 0), .long (q_Bits_lowest (32 : Int32) a1)]) (rest := []) hq (c_Conversions_fromUnsigned l A ad 0 (by decide) (q_Bits_lowest (32 : Int32) a1)) kB_Conversions_fromUnsigned wd_175 ⟨rfl, rfl, Nat.le_of_ble_eq_true rfl, Nat.le_of_ble_eq_true rfl⟩ rfl hl.1 rfl (Nat.le_of_ble_eq_true rfl) d_Conversions_toFloat_74 ⟨Nat.zero_le _, Nat.zero_le _⟩ ?_
    exact rl_ hx hb hr hk (by rw [q_Conversions_toFloat, if_neg c_1, if_pos c_2]) d_Conversions_toFloat_77
  by_cases c_3 : a0 = (180 : Int32)
  · refine lv_tableIn (tgt := 78) hx hb d_Conversions_toFloat_1 (by rw [c_3]; decide) (by rw [c_3]; decide) (by rw [c_3]; rfl) (by decide) ?_
    refine gs_0 hq wd_189 d_Conversions_toFloat_78 ?_
    refine lv_lload_n hx hb d_Conversions_toFloat_81 rfl (lv_at hl 1 rfl) ?_
    refine sl_ (As := [.ref (ad 0), .long a1]) (rest := []) hq (c_Conversions_fromSigned l A ad 0 (by decide) a1) kB_Conversions_fromSigned wd_191 ⟨rfl, rfl, Nat.le_of_ble_eq_true rfl, Nat.le_of_ble_eq_true rfl⟩ rfl hl.1 rfl (Nat.le_of_ble_eq_true rfl) d_Conversions_toFloat_82 ⟨Nat.zero_le _, Nat.zero_le _⟩ ?_
    exact rl_ hx hb hr hk (by rw [q_Conversions_toFloat, if_neg c_1, if_neg c_2, if_pos c_3]) d_Conversions_toFloat_85
  by_cases c_4 : a0 = (181 : Int32)
  · refine lv_tableIn (tgt := 86) hx hb d_Conversions_toFloat_1 (by rw [c_4]; decide) (by rw [c_4]; decide) (by rw [c_4]; rfl) (by decide) ?_
    refine gs_0 hq wd_189 d_Conversions_toFloat_86 ?_
    refine lv_lload_n hx hb d_Conversions_toFloat_89 rfl (lv_at hl 1 rfl) ?_
    refine sl_ (As := [.ref (ad 0), .long a1]) (rest := []) hq (c_Conversions_fromUnsigned l A ad 0 (by decide) a1) kB_Conversions_fromUnsigned wd_175 ⟨rfl, rfl, Nat.le_of_ble_eq_true rfl, Nat.le_of_ble_eq_true rfl⟩ rfl hl.1 rfl (Nat.le_of_ble_eq_true rfl) d_Conversions_toFloat_90 ⟨Nat.zero_le _, Nat.zero_le _⟩ ?_
    exact rl_ hx hb hr hk (by rw [q_Conversions_toFloat, if_neg c_1, if_neg c_2, if_neg c_3, if_pos c_4]) d_Conversions_toFloat_93
  by_cases c_5 : a0 = (182 : Int32)
  · refine lv_tableIn (tgt := 94) hx hb d_Conversions_toFloat_1 (by rw [c_5]; decide) (by rw [c_5]; decide) (by rw [c_5]; rfl) (by decide) ?_
    refine gs_1 hq wd_193 d_Conversions_toFloat_94 ?_
    refine lv_lload_n hx hb d_Conversions_toFloat_97 rfl (lv_at hl 1 rfl) ?_
    refine gs_0 hq wd_189 d_Conversions_toFloat_98 ?_
    refine sl_ (As := [.ref (ad 1), .long a1, .ref (ad 0)]) (rest := []) hq (c_Conversions_fromFloat l A ad 1 (by decide) a1 0 (by decide)) kB_Conversions_fromFloat wd_194 ⟨rfl, rfl, Nat.le_of_ble_eq_true rfl, Nat.le_of_ble_eq_true rfl⟩ rfl hl.1 rfl (Nat.le_of_ble_eq_true rfl) d_Conversions_toFloat_101 ⟨Nat.zero_le _, Nat.zero_le _⟩ ?_
    exact rl_ hx hb hr hk (by rw [q_Conversions_toFloat, if_neg c_1, if_neg c_2, if_neg c_3, if_neg c_4, if_pos c_5]) d_Conversions_toFloat_104
  by_cases c_6 : a0 = (183 : Int32)
  · refine lv_tableIn (tgt := 105) hx hb d_Conversions_toFloat_1 (by rw [c_6]; decide) (by rw [c_6]; decide) (by rw [c_6]; rfl) (by decide) ?_
    refine gs_1 hq wd_193 d_Conversions_toFloat_105 ?_
    refine lv_bipush (v := (32 : Int32)) hx hb d_Conversions_toFloat_108 (by decide) ?_
    refine lv_lload_n hx hb d_Conversions_toFloat_110 rfl (lv_at hl 1 rfl) ?_
    refine sl_ (As := [.int (32 : Int32), .long a1]) (rest := [.ref (ad 1)]) hq (c_Bits_signed l A ad (32 : Int32) a1) kB_Bits_signed wd_190 ⟨rfl, rfl, Nat.le_of_ble_eq_true rfl, Nat.le_of_ble_eq_true rfl⟩ rfl hl.1 rfl (Nat.le_of_ble_eq_true rfl) d_Conversions_toFloat_111 ⟨Nat.zero_le _, Nat.zero_le _⟩ ?_
    refine sl_ (As := [.ref (ad 1), .long (q_Bits_signed (32 : Int32) a1)]) (rest := []) hq (c_Conversions_fromSigned l A ad 1 (by decide) (q_Bits_signed (32 : Int32) a1)) kB_Conversions_fromSigned wd_191 ⟨rfl, rfl, Nat.le_of_ble_eq_true rfl, Nat.le_of_ble_eq_true rfl⟩ rfl hl.1 rfl (Nat.le_of_ble_eq_true rfl) d_Conversions_toFloat_114 ⟨Nat.zero_le _, Nat.zero_le _⟩ ?_
    exact rl_ hx hb hr hk (by rw [q_Conversions_toFloat, if_neg c_1, if_neg c_2, if_neg c_3, if_neg c_4, if_neg c_5, if_pos c_6]) d_Conversions_toFloat_117
  by_cases c_7 : a0 = (184 : Int32)
  · refine lv_tableIn (tgt := 118) hx hb d_Conversions_toFloat_1 (by rw [c_7]; decide) (by rw [c_7]; decide) (by rw [c_7]; rfl) (by decide) ?_
    refine gs_1 hq wd_193 d_Conversions_toFloat_118 ?_
    refine lv_bipush (v := (32 : Int32)) hx hb d_Conversions_toFloat_121 (by decide) ?_
    refine lv_lload_n hx hb d_Conversions_toFloat_123 rfl (lv_at hl 1 rfl) ?_
    refine sl_ (As := [.int (32 : Int32), .long a1]) (rest := [.ref (ad 1)]) hq (c_Bits_lowest l A ad (32 : Int32) a1) kB_Bits_lowest wd_192 ⟨rfl, rfl, Nat.le_of_ble_eq_true rfl, Nat.le_of_ble_eq_true rfl⟩ rfl hl.1 rfl (Nat.le_of_ble_eq_true rfl) d_Conversions_toFloat_124 ⟨Nat.zero_le _, Nat.zero_le _⟩ ?_
    refine sl_ (As := [.ref (ad 1), .long (q_Bits_lowest (32 : Int32) a1)]) (rest := []) hq (c_Conversions_fromUnsigned l A ad 1 (by decide) (q_Bits_lowest (32 : Int32) a1)) kB_Conversions_fromUnsigned wd_175 ⟨rfl, rfl, Nat.le_of_ble_eq_true rfl, Nat.le_of_ble_eq_true rfl⟩ rfl hl.1 rfl (Nat.le_of_ble_eq_true rfl) d_Conversions_toFloat_127 ⟨Nat.zero_le _, Nat.zero_le _⟩ ?_
    exact rl_ hx hb hr hk (by rw [q_Conversions_toFloat, if_neg c_1, if_neg c_2, if_neg c_3, if_neg c_4, if_neg c_5, if_neg c_6, if_pos c_7]) d_Conversions_toFloat_130
  by_cases c_8 : a0 = (185 : Int32)
  · refine lv_tableIn (tgt := 131) hx hb d_Conversions_toFloat_1 (by rw [c_8]; decide) (by rw [c_8]; decide) (by rw [c_8]; rfl) (by decide) ?_
    refine gs_1 hq wd_193 d_Conversions_toFloat_131 ?_
    refine lv_lload_n hx hb d_Conversions_toFloat_134 rfl (lv_at hl 1 rfl) ?_
    refine sl_ (As := [.ref (ad 1), .long a1]) (rest := []) hq (c_Conversions_fromSigned l A ad 1 (by decide) a1) kB_Conversions_fromSigned wd_191 ⟨rfl, rfl, Nat.le_of_ble_eq_true rfl, Nat.le_of_ble_eq_true rfl⟩ rfl hl.1 rfl (Nat.le_of_ble_eq_true rfl) d_Conversions_toFloat_135 ⟨Nat.zero_le _, Nat.zero_le _⟩ ?_
    exact rl_ hx hb hr hk (by rw [q_Conversions_toFloat, if_neg c_1, if_neg c_2, if_neg c_3, if_neg c_4, if_neg c_5, if_neg c_6, if_neg c_7, if_pos c_8]) d_Conversions_toFloat_138
  by_cases c_9 : a0 = (186 : Int32)
  · refine lv_tableIn (tgt := 139) hx hb d_Conversions_toFloat_1 (by rw [c_9]; decide) (by rw [c_9]; decide) (by rw [c_9]; rfl) (by decide) ?_
    refine gs_1 hq wd_193 d_Conversions_toFloat_139 ?_
    refine lv_lload_n hx hb d_Conversions_toFloat_142 rfl (lv_at hl 1 rfl) ?_
    refine sl_ (As := [.ref (ad 1), .long a1]) (rest := []) hq (c_Conversions_fromUnsigned l A ad 1 (by decide) a1) kB_Conversions_fromUnsigned wd_175 ⟨rfl, rfl, Nat.le_of_ble_eq_true rfl, Nat.le_of_ble_eq_true rfl⟩ rfl hl.1 rfl (Nat.le_of_ble_eq_true rfl) d_Conversions_toFloat_143 ⟨Nat.zero_le _, Nat.zero_le _⟩ ?_
    exact rl_ hx hb hr hk (by rw [q_Conversions_toFloat, if_neg c_1, if_neg c_2, if_neg c_3, if_neg c_4, if_neg c_5, if_neg c_6, if_neg c_7, if_neg c_8, if_pos c_9]) d_Conversions_toFloat_146
  have hsw : a0.toInt < 178 ∨ 186 < a0.toInt := by
    have := lv_neT c_1 (a := 178) (by decide)
    have := lv_neT c_2 (a := 179) (by decide)
    have := lv_neT c_3 (a := 180) (by decide)
    have := lv_neT c_4 (a := 181) (by decide)
    have := lv_neT c_5 (a := 182) (by decide)
    have := lv_neT c_6 (a := 183) (by decide)
    have := lv_neT c_7 (a := 184) (by decide)
    have := lv_neT c_8 (a := 185) (by decide)
    have := lv_neT c_9 (a := 186) (by decide)
    omega
  refine lv_tableOut (tgt := 147) hx hb d_Conversions_toFloat_1 hsw (by decide) ?_
  refine gs_0 hq wd_189 d_Conversions_toFloat_147 ?_
  refine lv_bipush (v := (32 : Int32)) hx hb d_Conversions_toFloat_150 (by decide) ?_
  refine lv_lload_n hx hb d_Conversions_toFloat_152 rfl (lv_at hl 1 rfl) ?_
  refine sl_ (As := [.int (32 : Int32), .long a1]) (rest := [.ref (ad 0)]) hq (c_Bits_lowest l A ad (32 : Int32) a1) kB_Bits_lowest wd_192 ⟨rfl, rfl, Nat.le_of_ble_eq_true rfl, Nat.le_of_ble_eq_true rfl⟩ rfl hl.1 rfl (Nat.le_of_ble_eq_true rfl) d_Conversions_toFloat_153 ⟨Nat.zero_le _, Nat.zero_le _⟩ ?_
  refine gs_1 hq wd_193 d_Conversions_toFloat_156 ?_
  refine sl_ (As := [.ref (ad 0), .long (q_Bits_lowest (32 : Int32) a1), .ref (ad 1)]) (rest := []) hq (c_Conversions_fromFloat l A ad 0 (by decide) (q_Bits_lowest (32 : Int32) a1) 1 (by decide)) kB_Conversions_fromFloat wd_194 ⟨rfl, rfl, Nat.le_of_ble_eq_true rfl, Nat.le_of_ble_eq_true rfl⟩ rfl hl.1 rfl (Nat.le_of_ble_eq_true rfl) d_Conversions_toFloat_159 ⟨Nat.zero_le _, Nat.zero_le _⟩ ?_
  exact rl_ hx hb hr hk (by rw [q_Conversions_toFloat, if_neg c_1, if_neg c_2, if_neg c_3, if_neg c_4, if_neg c_5, if_neg c_6, if_neg c_7, if_neg c_8, if_neg c_9]) d_Conversions_toFloat_162
def q_Conversions_cutAmount (j0 : Nat) (a1 : Int64) : Int64 :=
  if (-64 : Int32) < (q_Form_scale j0 a1) then
    if (q_Form_scale j0 a1) < 0 then
      (ush_ (q_Form_significand j0 a1) (-(q_Form_scale j0 a1)))
    else
      (shl_ (q_Form_significand j0 a1) (q_Form_scale j0 a1))
  else
    (0 : Int64)
theorem kB_Conversions_cutAmount : SB y_Conversions_cutAmount b_Conversions_cutAmount 6 (some .long) 2 := ⟨wd_197, wd_198, wd_174, by decide +kernel⟩
set_option maxHeartbeats 4000000 in
set_option maxRecDepth 100000 in
theorem c_Conversions_cutAmount (l : Launch) (A : Nat → Prop) (ad : Nat → Nat) (j0 : Nat) (hj0 : j0 < 2) (a1 : Int64) : Met l y_Conversions_cutAmount (Cond.code y_Conversions_cutAmount b_Conversions_cutAmount 6 (some .long) :: BT) ({ frames := 2, cells := 0, slots := 0, locals := 48 }) (PC A ad [.ref (ad j0), .long a1]) (vp_Sl (fun r => r = q_Conversions_cutAmount j0 a1)) 0 0 (fun _ => False) := by
  refine pm_ (by decide +kernel) (Nat.le_of_ble_eq_true rfl) ?_
  intro p e s m below meth c hq hr hk ls hl
  have hx := hq.1
  have hb := hq.2.1
  have hts := hq.2.2.2.2.1
  have hl : lv_has ls 6 [(0, .ref (ad j0)), (1, .long a1)] := hl
  refine lv_aload_n hx hb d_Conversions_cutAmount_0 rfl (lv_at hl 0 rfl) ?_
  refine lv_lload_n hx hb d_Conversions_cutAmount_1 rfl (lv_at hl 1 rfl) ?_
  refine vi_ (As := [.long a1]) (rest := []) hq hj0 (c_Form_scale l A ad j0 hj0 a1) kB_Form_scale wd_184 ⟨rfl, rfl, Nat.le_of_ble_eq_true rfl, Nat.le_of_ble_eq_true rfl⟩ rfl hl.1 rfl (Nat.le_of_ble_eq_true rfl) d_Conversions_cutAmount_2 ⟨Nat.zero_le _, Nat.zero_le _⟩ ?_
  refine lv_istore_n (lv' := [(3, .int (q_Form_scale j0 a1)), (0, .ref (ad j0)), (1, .long a1)]) hx hb d_Conversions_cutAmount_5 rfl hl (by decide) rfl (fun ls hl => ?_)
  refine lv_iload_n hx hb d_Conversions_cutAmount_6 rfl (lv_at hl 0 rfl) ?_
  refine lv_bipush (v := (-64 : Int32)) hx hb d_Conversions_cutAmount_7 (by decide) ?_
  refine lv_icmp_gt (tgt := 14) hx hb d_Conversions_cutAmount_9 (by decide) (fun c_1 => ?_) (fun c_1 => ?_)
  · refine lv_aload_n hx hb d_Conversions_cutAmount_14 rfl (lv_at hl 1 rfl) ?_
    refine lv_lload_n hx hb d_Conversions_cutAmount_15 rfl (lv_at hl 2 rfl) ?_
    refine vl_ (As := [.long a1]) (rest := []) hq hj0 (c_Form_significand l A ad j0 hj0 a1) kB_Form_significand wd_183 ⟨rfl, rfl, Nat.le_of_ble_eq_true rfl, Nat.le_of_ble_eq_true rfl⟩ rfl hl.1 rfl (Nat.le_of_ble_eq_true rfl) d_Conversions_cutAmount_16 ⟨Nat.zero_le _, Nat.zero_le _⟩ ?_
    refine lv_lstore (lv' := [(4, .long (q_Form_significand j0 a1)), (3, .int (q_Form_scale j0 a1)), (0, .ref (ad j0)), (1, .long a1)]) hx hb d_Conversions_cutAmount_19 hl (by decide) rfl (fun ls hl => ?_)
    refine lv_iload_n hx hb d_Conversions_cutAmount_21 rfl (lv_at hl 1 rfl) ?_
    refine lv_if_lt (tgt := 32) hx hb d_Conversions_cutAmount_22 (by decide) (fun c_2 => ?_) (fun c_2 => ?_)
    · refine lv_lload hx hb d_Conversions_cutAmount_32 (lv_at hl 0 rfl) ?_
      refine lv_iload_n hx hb d_Conversions_cutAmount_34 rfl (lv_at hl 1 rfl) ?_
      refine lv_ineg hx hb d_Conversions_cutAmount_35 ?_
      refine lv_lushr (v := (ush_ (q_Form_significand j0 a1) (-(q_Form_scale j0 a1)))) hx hb d_Conversions_cutAmount_36 rfl ?_
      exact rl_ hx hb hr hk (by rw [q_Conversions_cutAmount, if_pos c_1, if_pos c_2]) d_Conversions_cutAmount_37
    · refine lv_lload hx hb d_Conversions_cutAmount_25 (lv_at hl 0 rfl) ?_
      refine lv_iload_n hx hb d_Conversions_cutAmount_27 rfl (lv_at hl 1 rfl) ?_
      refine lv_lshl (v := (shl_ (q_Form_significand j0 a1) (q_Form_scale j0 a1))) hx hb d_Conversions_cutAmount_28 rfl ?_
      refine lv_goto (tgt := 37) hx hb d_Conversions_cutAmount_29 (by decide) ?_
      exact rl_ hx hb hr hk (by rw [q_Conversions_cutAmount, if_pos c_1, if_neg c_2]) d_Conversions_cutAmount_37
  · refine lv_lconst (v := (0 : Int64)) hx hb d_Conversions_cutAmount_12 (by decide) ?_
    exact rl_ hx hb hr hk (by rw [q_Conversions_cutAmount, if_neg c_1]) d_Conversions_cutAmount_13
def q_Conversions_greatest (a0 : Int32) (a1 : Int32) (a2 : Int32) : Int64 :=
  if a2 = 0 then
    if a0 = 0 then
      (q_Bits_lowest a1 (-1 : Int64))
    else
      (0 : Int64)
  else
    if a0 = 0 then
      ((shl_ (1 : Int64) (a1 - (1 : Int32))) - (1 : Int64))
    else
      (shl_ (1 : Int64) (a1 - (1 : Int32)))
theorem kB_Conversions_greatest : SB y_Conversions_greatest b_Conversions_greatest 5 (some .long) 3 := ⟨wd_200, wd_201, wd_174, by decide +kernel⟩
set_option maxHeartbeats 4000000 in
set_option maxRecDepth 100000 in
theorem c_Conversions_greatest (l : Launch) (A : Nat → Prop) (ad : Nat → Nat) (a0 : Int32) (a1 : Int32) (a2 : Int32) : Met l y_Conversions_greatest (Cond.code y_Conversions_greatest b_Conversions_greatest 5 (some .long) :: BT) ({ frames := 1, cells := 0, slots := 0, locals := 22 }) (PC A ad [.int a0, .int a1, .int a2]) (vp_Sl (fun r => r = q_Conversions_greatest a0 a1 a2)) 0 0 (fun _ => False) := by
  refine pm_ (by decide +kernel) (Nat.le_of_ble_eq_true rfl) ?_
  intro p e s m below meth c hq hr hk ls hl
  have hx := hq.1
  have hb := hq.2.1
  have hts := hq.2.2.2.2.1
  have hl : lv_has ls 5 [(0, .int a0), (1, .int a1), (2, .int a2)] := hl
  refine lv_lconst (v := (1 : Int64)) hx hb d_Conversions_greatest_0 (by decide) ?_
  refine lv_iload_n hx hb d_Conversions_greatest_1 rfl (lv_at hl 1 rfl) ?_
  refine lv_iconst (v := (1 : Int32)) hx hb d_Conversions_greatest_2 (by decide) ?_
  refine lv_isub hx hb d_Conversions_greatest_3 ?_
  refine lv_lshl (v := (shl_ (1 : Int64) (a1 - (1 : Int32)))) hx hb d_Conversions_greatest_4 rfl ?_
  refine lv_lstore_n (lv' := [(3, .long (shl_ (1 : Int64) (a1 - (1 : Int32)))), (0, .int a0), (1, .int a1), (2, .int a2)]) hx hb d_Conversions_greatest_5 rfl hl (by decide) rfl (fun ls hl => ?_)
  refine lv_iload_n hx hb d_Conversions_greatest_6 rfl (lv_at hl 3 rfl) ?_
  refine lv_if_eq (tgt := 22) hx hb d_Conversions_greatest_7 (by decide) (fun c_1 => ?_) (fun c_1 => ?_)
  · refine lv_iload_n hx hb d_Conversions_greatest_22 rfl (lv_at hl 1 rfl) ?_
    refine lv_if_eq (tgt := 30) hx hb d_Conversions_greatest_23 (by decide) (fun c_2 => ?_) (fun c_2 => ?_)
    · refine lv_iload_n hx hb d_Conversions_greatest_30 rfl (lv_at hl 2 rfl) ?_
      refine lv_ldc2 (v := (-1 : Int64)) hx hb hq.2.2.2.1 (hts _ wd_199) d_Conversions_greatest_31 ?_
      refine sl_ (As := [.int a1, .long (-1 : Int64)]) (rest := []) hq (c_Bits_lowest l A ad a1 (-1 : Int64)) kB_Bits_lowest wd_192 ⟨rfl, rfl, Nat.le_of_ble_eq_true rfl, Nat.le_of_ble_eq_true rfl⟩ rfl hl.1 rfl (Nat.le_of_ble_eq_true rfl) d_Conversions_greatest_34 ⟨Nat.zero_le _, Nat.zero_le _⟩ ?_
      exact rl_ hx hb hr hk (by rw [q_Conversions_greatest, if_pos c_1, if_pos c_2]) d_Conversions_greatest_37
    · refine lv_lconst (v := (0 : Int64)) hx hb d_Conversions_greatest_26 (by decide) ?_
      refine lv_goto (tgt := 37) hx hb d_Conversions_greatest_27 (by decide) ?_
      exact rl_ hx hb hr hk (by rw [q_Conversions_greatest, if_pos c_1, if_neg c_2]) d_Conversions_greatest_37
  · refine lv_iload_n hx hb d_Conversions_greatest_10 rfl (lv_at hl 1 rfl) ?_
    refine lv_if_eq (tgt := 18) hx hb d_Conversions_greatest_11 (by decide) (fun c_3 => ?_) (fun c_3 => ?_)
    · refine lv_lload_n hx hb d_Conversions_greatest_18 rfl (lv_at hl 0 rfl) ?_
      refine lv_lconst (v := (1 : Int64)) hx hb d_Conversions_greatest_19 (by decide) ?_
      refine lv_lsub hx hb d_Conversions_greatest_20 ?_
      exact rl_ hx hb hr hk (by rw [q_Conversions_greatest, if_neg c_1, if_pos c_3]) d_Conversions_greatest_21
    · refine lv_lload_n hx hb d_Conversions_greatest_14 rfl (lv_at hl 0 rfl) ?_
      refine lv_goto (tgt := 21) hx hb d_Conversions_greatest_15 (by decide) ?_
      exact rl_ hx hb hr hk (by rw [q_Conversions_greatest, if_neg c_1, if_neg c_3]) d_Conversions_greatest_21
end
section
def lf_Floats_longDivision (a0 : Int64) (a1 : Int64) : Nat → Int64 → Int64 → Int64
  | 0, v4, v6 =>
    (q_Bits_marked v4 v6)
  | k + 1, v4, v6 =>
    if v6 < a1 then
      lf_Floats_longDivision a0 a1 k (shl_ v4 (1 : Int32)) (shl_ v6 (1 : Int32))
    else
      lf_Floats_longDivision a0 a1 k ((shl_ v4 (1 : Int32)) ||| (1 : Int64)) (shl_ (v6 - a1) (1 : Int32))
theorem kB_Floats_longDivision : SB y_Floats_longDivision b_Floats_longDivision 9 (some .long) 2 := ⟨wd_202, wd_203, wd_119, by decide +kernel⟩
set_option maxHeartbeats 4000000 in
set_option maxRecDepth 100000 in
theorem lp_Floats_longDivision {p : Program} {l : Launch} {e : Env} {s : State} {m : MethodId} {args : Array Value} {below : List Frame} {meth : Method} {c : Code} {A : Nat → Prop} {ad : Nat → Nat} (hq : FX p s m args c A ad b_Floats_longDivision 9 y_Floats_longDivision.cls) (hr : meth.sig.returnType = some .long) (hk : meth.locks = false) (a0 : Int64) (a1 : Int64) (w : Int64) :
    ∀ k : Nat, k ≤ 60 → ∀ (v4 : Int64) (v6 : Int64) (ls : Array Slot), lv_has ls 9 [(8, .int (nI (60 - k))), (4, .long v4), (6, .long v6), (0, .long a0), (2, .long a1)] → w = lf_Floats_longDivision a0 a1 k v4 v6 → W p l e ({ frames := 1, cells := 0, slots := 0, locals := 23 } : Room) s m args below meth c s.heap [] 0 0 (MQ below (vp_Sl (fun r => r = w)) args s 0 0 (fun _ => False)) (F0 m 9 ls []) := by
  have hx := hq.1
  have hb := hq.2.1
  have hts := hq.2.2.2.2.1
  intro k
  induction k with
  | zero =>
    intro _ v4 v6 ls hl hw
    refine lv_iload hx hb d_Floats_longDivision_9 (lv_at hl 0 rfl) ?_
    refine lv_bipush (v := (60 : Int32)) hx hb d_Floats_longDivision_11 (by decide) ?_
    refine lv_icmp_ge (tgt := 53) hx hb d_Floats_longDivision_13 (by decide) (fun _ => ?_) (fun c => absurd (by decide) c)
    refine lv_lload hx hb d_Floats_longDivision_53 (lv_at hl 1 rfl) ?_
    refine lv_lload hx hb d_Floats_longDivision_55 (lv_at hl 2 rfl) ?_
    refine sl_ (As := [.long v4, .long v6]) (rest := []) hq (c_Bits_marked l A ad v4 v6) kB_Bits_marked wd_146 ⟨rfl, rfl, Nat.le_of_ble_eq_true rfl, Nat.le_of_ble_eq_true rfl⟩ rfl hl.1 rfl (Nat.le_of_ble_eq_true rfl) d_Floats_longDivision_57 ⟨Nat.zero_le _, Nat.zero_le _⟩ ?_
    exact rl_ hx hb hr hk (by rw [hw, lf_Floats_longDivision]) d_Floats_longDivision_60
  | succ k ih =>
    intro hle v4 v6 ls hl hw
    refine lv_iload hx hb d_Floats_longDivision_9 (lv_at hl 0 rfl) ?_
    refine lv_bipush (v := (60 : Int32)) hx hb d_Floats_longDivision_11 (by decide) ?_
    refine lv_icmp_ge (tgt := 53) hx hb d_Floats_longDivision_13 (by decide) (fun c => absurd c (nI_ge (show 60 - (k + 1) < 60 by omega) (by decide))) (fun _ => ?_)
    refine lv_lload hx hb d_Floats_longDivision_16 (lv_at hl 1 rfl) ?_
    refine lv_iconst (v := (1 : Int32)) hx hb d_Floats_longDivision_18 (by decide) ?_
    refine lv_lshl (v := (shl_ v4 (1 : Int32))) hx hb d_Floats_longDivision_19 rfl ?_
    refine lv_lstore (lv' := [(4, .long (shl_ v4 (1 : Int32))), (8, .int (nI (60 - (k + 1)))), (6, .long v6), (0, .long a0), (2, .long a1)]) hx hb d_Floats_longDivision_20 hl (by decide) rfl (fun ls hl => ?_)
    refine lv_lload hx hb d_Floats_longDivision_22 (lv_at hl 2 rfl) ?_
    refine lv_lload_n hx hb d_Floats_longDivision_24 rfl (lv_at hl 4 rfl) ?_
    refine W.lcmp hx hb d_Floats_longDivision_25 ?_
    refine lv_if_lt (tgt := 41) hx hb d_Floats_longDivision_26 (by decide) (fun c_1 => ?_) (fun c_1 => ?_)
    · rw [lg_cmp_lt] at c_1
      refine lv_lload hx hb d_Floats_longDivision_41 (lv_at hl 2 rfl) ?_
      refine lv_iconst (v := (1 : Int32)) hx hb d_Floats_longDivision_43 (by decide) ?_
      refine lv_lshl (v := (shl_ v6 (1 : Int32))) hx hb d_Floats_longDivision_44 rfl ?_
      refine lv_lstore (lv' := [(6, .long (shl_ v6 (1 : Int32))), (4, .long (shl_ v4 (1 : Int32))), (8, .int (nI (60 - (k + 1)))), (0, .long a0), (2, .long a1)]) hx hb d_Floats_longDivision_45 hl (by decide) rfl (fun ls hl => ?_)
      refine lv_iinc (v := nI (60 - k)) (lv' := [(8, .int (nI (60 - k))), (6, .long (shl_ v6 (1 : Int32))), (4, .long (shl_ v4 (1 : Int32))), (0, .long a0), (2, .long a1)]) hx hb d_Floats_longDivision_47 hl (k := 2) rfl (by show nI (60 - (k + 1)) + 1 = nI (60 - k); rw [nI_1]; congr 1; omega) (by decide) rfl (fun ls hl => ?_)
      refine lv_goto (tgt := 9) hx hb d_Floats_longDivision_50 (by decide) ?_
      exact ih (by omega) (shl_ v4 (1 : Int32)) (shl_ v6 (1 : Int32)) ls (lv_sub hl [0, 2, 1, 3, 4] rfl) (by rw [hw, lf_Floats_longDivision, if_pos c_1])
    · rw [lg_cmp_lt] at c_1
      refine lv_lload hx hb d_Floats_longDivision_29 (lv_at hl 2 rfl) ?_
      refine lv_lload_n hx hb d_Floats_longDivision_31 rfl (lv_at hl 4 rfl) ?_
      refine lv_lsub hx hb d_Floats_longDivision_32 ?_
      refine lv_lstore (lv' := [(6, .long (v6 - a1)), (4, .long (shl_ v4 (1 : Int32))), (8, .int (nI (60 - (k + 1)))), (0, .long a0), (2, .long a1)]) hx hb d_Floats_longDivision_33 hl (by decide) rfl (fun ls hl => ?_)
      refine lv_lload hx hb d_Floats_longDivision_35 (lv_at hl 1 rfl) ?_
      refine lv_lconst (v := (1 : Int64)) hx hb d_Floats_longDivision_37 (by decide) ?_
      refine lv_lor hx hb d_Floats_longDivision_38 ?_
      refine lv_lstore (lv' := [(4, .long ((shl_ v4 (1 : Int32)) ||| (1 : Int64))), (6, .long (v6 - a1)), (8, .int (nI (60 - (k + 1)))), (0, .long a0), (2, .long a1)]) hx hb d_Floats_longDivision_39 hl (by decide) rfl (fun ls hl => ?_)
      refine lv_lload hx hb d_Floats_longDivision_41 (lv_at hl 1 rfl) ?_
      refine lv_iconst (v := (1 : Int32)) hx hb d_Floats_longDivision_43 (by decide) ?_
      refine lv_lshl (v := (shl_ (v6 - a1) (1 : Int32))) hx hb d_Floats_longDivision_44 rfl ?_
      refine lv_lstore (lv' := [(6, .long (shl_ (v6 - a1) (1 : Int32))), (4, .long ((shl_ v4 (1 : Int32)) ||| (1 : Int64))), (8, .int (nI (60 - (k + 1)))), (0, .long a0), (2, .long a1)]) hx hb d_Floats_longDivision_45 hl (by decide) rfl (fun ls hl => ?_)
      refine lv_iinc (v := nI (60 - k)) (lv' := [(8, .int (nI (60 - k))), (6, .long (shl_ (v6 - a1) (1 : Int32))), (4, .long ((shl_ v4 (1 : Int32)) ||| (1 : Int64))), (0, .long a0), (2, .long a1)]) hx hb d_Floats_longDivision_47 hl (k := 2) rfl (by show nI (60 - (k + 1)) + 1 = nI (60 - k); rw [nI_1]; congr 1; omega) (by decide) rfl (fun ls hl => ?_)
      refine lv_goto (tgt := 9) hx hb d_Floats_longDivision_50 (by decide) ?_
      exact ih (by omega) ((shl_ v4 (1 : Int32)) ||| (1 : Int64)) (shl_ (v6 - a1) (1 : Int32)) ls (lv_sub hl [0, 2, 1, 3, 4] rfl) (by rw [hw, lf_Floats_longDivision, if_neg c_1])
def q_Floats_longDivision (a0 : Int64) (a1 : Int64) : Int64 := lf_Floats_longDivision a0 a1 60 (0 : Int64) a0
set_option maxHeartbeats 4000000 in
set_option maxRecDepth 100000 in
theorem c_Floats_longDivision (l : Launch) (A : Nat → Prop) (ad : Nat → Nat) (a0 : Int64) (a1 : Int64) : Met l y_Floats_longDivision (Cond.code y_Floats_longDivision b_Floats_longDivision 9 (some .long) :: BT) ({ frames := 1, cells := 0, slots := 0, locals := 23 } : Room) (PC A ad [.long a0, .long a1]) (vp_Sl (fun r => r = q_Floats_longDivision a0 a1)) 0 0 (fun _ => False) := by
  refine pm_ (by decide +kernel) (Nat.le_of_ble_eq_true rfl) ?_
  intro p e s m below meth c hq hr hk ls hl
  have hx := hq.1
  have hb := hq.2.1
  have hts := hq.2.2.2.2.1
  have hl : lv_has ls 9 [(0, .long a0), (2, .long a1)] := hl
  refine lv_lconst (v := (0 : Int64)) hx hb d_Floats_longDivision_0 (by decide) ?_
  refine lv_lstore (lv' := [(4, .long (0 : Int64)), (0, .long a0), (2, .long a1)]) hx hb d_Floats_longDivision_1 hl (by decide) rfl (fun ls hl => ?_)
  refine lv_lload_n hx hb d_Floats_longDivision_3 rfl (lv_at hl 1 rfl) ?_
  refine lv_lstore (lv' := [(6, .long a0), (4, .long (0 : Int64)), (0, .long a0), (2, .long a1)]) hx hb d_Floats_longDivision_4 hl (by decide) rfl (fun ls hl => ?_)
  refine lv_iconst (v := (0 : Int32)) hx hb d_Floats_longDivision_6 (by decide) ?_
  refine lv_istore (lv' := [(8, .int (0 : Int32)), (6, .long a0), (4, .long (0 : Int64)), (0, .long a0), (2, .long a1)]) hx hb d_Floats_longDivision_7 hl (by decide) rfl (fun ls hl => ?_)
  exact lp_Floats_longDivision hq hr hk a0 a1 _ 60 (by omega) (0 : Int64) a0 ls (lv_sub hl [0, 2, 1, 3, 4] rfl) rfl
def lf_Floats_longRoot (a0 : Int64) : Nat → Int64 → Int64 → Int64 → Int64
  | 0, v2, v4, v6 =>
    (q_Bits_marked v2 v4)
  | k + 1, v2, v4, v6 =>
    if ((shl_ v4 (2 : Int32)) ||| (ush_ v6 (62 : Int32))) < ((shl_ v2 (2 : Int32)) ||| (1 : Int64)) then
      lf_Floats_longRoot a0 k (shl_ v2 (1 : Int32)) ((shl_ v4 (2 : Int32)) ||| (ush_ v6 (62 : Int32))) (shl_ v6 (2 : Int32))
    else
      lf_Floats_longRoot a0 k ((shl_ v2 (1 : Int32)) ||| (1 : Int64)) (((shl_ v4 (2 : Int32)) ||| (ush_ v6 (62 : Int32))) - ((shl_ v2 (2 : Int32)) ||| (1 : Int64))) (shl_ v6 (2 : Int32))
theorem kB_Floats_longRoot : SB y_Floats_longRoot b_Floats_longRoot 11 (some .long) 1 := ⟨wd_204, wd_205, wd_119, by decide +kernel⟩
set_option maxHeartbeats 4000000 in
set_option maxRecDepth 100000 in
theorem lp_Floats_longRoot {p : Program} {l : Launch} {e : Env} {s : State} {m : MethodId} {args : Array Value} {below : List Frame} {meth : Method} {c : Code} {A : Nat → Prop} {ad : Nat → Nat} (hq : FX p s m args c A ad b_Floats_longRoot 11 y_Floats_longRoot.cls) (hr : meth.sig.returnType = some .long) (hk : meth.locks = false) (a0 : Int64) (w : Int64) :
    ∀ k : Nat, k ≤ 56 → ∀ (v2 : Int64) (v4 : Int64) (v6 : Int64) (ls : Array Slot), lv_has ls 11 [(8, .int (nI (56 - k))), (2, .long v2), (4, .long v4), (6, .long v6), (0, .long a0)] → w = lf_Floats_longRoot a0 k v2 v4 v6 → W p l e ({ frames := 1, cells := 0, slots := 0, locals := 23 } : Room) s m args below meth c s.heap [] 0 0 (MQ below (vp_Sl (fun r => r = w)) args s 0 0 (fun _ => False)) (F0 m 11 ls []) := by
  have hx := hq.1
  have hb := hq.2.1
  have hts := hq.2.2.2.2.1
  intro k
  induction k with
  | zero =>
    intro _ v2 v4 v6 ls hl hw
    refine lv_iload hx hb d_Floats_longRoot_11 (lv_at hl 0 rfl) ?_
    refine lv_bipush (v := (56 : Int32)) hx hb d_Floats_longRoot_13 (by decide) ?_
    refine lv_icmp_ge (tgt := 72) hx hb d_Floats_longRoot_15 (by decide) (fun _ => ?_) (fun c => absurd (by decide) c)
    refine lv_lload_n hx hb d_Floats_longRoot_72 rfl (lv_at hl 1 rfl) ?_
    refine lv_lload hx hb d_Floats_longRoot_73 (lv_at hl 2 rfl) ?_
    refine sl_ (As := [.long v2, .long v4]) (rest := []) hq (c_Bits_marked l A ad v2 v4) kB_Bits_marked wd_146 ⟨rfl, rfl, Nat.le_of_ble_eq_true rfl, Nat.le_of_ble_eq_true rfl⟩ rfl hl.1 rfl (Nat.le_of_ble_eq_true rfl) d_Floats_longRoot_75 ⟨Nat.zero_le _, Nat.zero_le _⟩ ?_
    exact rl_ hx hb hr hk (by rw [hw, lf_Floats_longRoot]) d_Floats_longRoot_78
  | succ k ih =>
    intro hle v2 v4 v6 ls hl hw
    refine lv_iload hx hb d_Floats_longRoot_11 (lv_at hl 0 rfl) ?_
    refine lv_bipush (v := (56 : Int32)) hx hb d_Floats_longRoot_13 (by decide) ?_
    refine lv_icmp_ge (tgt := 72) hx hb d_Floats_longRoot_15 (by decide) (fun c => absurd c (nI_ge (show 56 - (k + 1) < 56 by omega) (by decide))) (fun _ => ?_)
    refine lv_lload hx hb d_Floats_longRoot_18 (lv_at hl 2 rfl) ?_
    refine lv_iconst (v := (2 : Int32)) hx hb d_Floats_longRoot_20 (by decide) ?_
    refine lv_lshl (v := (shl_ v4 (2 : Int32))) hx hb d_Floats_longRoot_21 rfl ?_
    refine lv_lload hx hb d_Floats_longRoot_22 (lv_at hl 3 rfl) ?_
    refine lv_bipush (v := (62 : Int32)) hx hb d_Floats_longRoot_24 (by decide) ?_
    refine lv_lushr (v := (ush_ v6 (62 : Int32))) hx hb d_Floats_longRoot_26 rfl ?_
    refine lv_lor hx hb d_Floats_longRoot_27 ?_
    refine lv_lstore (lv' := [(4, .long ((shl_ v4 (2 : Int32)) ||| (ush_ v6 (62 : Int32)))), (8, .int (nI (56 - (k + 1)))), (2, .long v2), (6, .long v6), (0, .long a0)]) hx hb d_Floats_longRoot_28 hl (by decide) rfl (fun ls hl => ?_)
    refine lv_lload hx hb d_Floats_longRoot_30 (lv_at hl 3 rfl) ?_
    refine lv_iconst (v := (2 : Int32)) hx hb d_Floats_longRoot_32 (by decide) ?_
    refine lv_lshl (v := (shl_ v6 (2 : Int32))) hx hb d_Floats_longRoot_33 rfl ?_
    refine lv_lstore (lv' := [(6, .long (shl_ v6 (2 : Int32))), (4, .long ((shl_ v4 (2 : Int32)) ||| (ush_ v6 (62 : Int32)))), (8, .int (nI (56 - (k + 1)))), (2, .long v2), (0, .long a0)]) hx hb d_Floats_longRoot_34 hl (by decide) rfl (fun ls hl => ?_)
    refine lv_lload_n hx hb d_Floats_longRoot_36 rfl (lv_at hl 3 rfl) ?_
    refine lv_iconst (v := (2 : Int32)) hx hb d_Floats_longRoot_37 (by decide) ?_
    refine lv_lshl (v := (shl_ v2 (2 : Int32))) hx hb d_Floats_longRoot_38 rfl ?_
    refine lv_lconst (v := (1 : Int64)) hx hb d_Floats_longRoot_39 (by decide) ?_
    refine lv_lor hx hb d_Floats_longRoot_40 ?_
    refine lv_lstore (lv' := [(9, .long ((shl_ v2 (2 : Int32)) ||| (1 : Int64))), (6, .long (shl_ v6 (2 : Int32))), (4, .long ((shl_ v4 (2 : Int32)) ||| (ush_ v6 (62 : Int32)))), (8, .int (nI (56 - (k + 1)))), (2, .long v2), (0, .long a0)]) hx hb d_Floats_longRoot_41 hl (by decide) rfl (fun ls hl => ?_)
    refine lv_lload_n hx hb d_Floats_longRoot_43 rfl (lv_at hl 4 rfl) ?_
    refine lv_iconst (v := (1 : Int32)) hx hb d_Floats_longRoot_44 (by decide) ?_
    refine lv_lshl (v := (shl_ v2 (1 : Int32))) hx hb d_Floats_longRoot_45 rfl ?_
    refine lv_lstore_n (lv' := [(2, .long (shl_ v2 (1 : Int32))), (9, .long ((shl_ v2 (2 : Int32)) ||| (1 : Int64))), (6, .long (shl_ v6 (2 : Int32))), (4, .long ((shl_ v4 (2 : Int32)) ||| (ush_ v6 (62 : Int32)))), (8, .int (nI (56 - (k + 1)))), (0, .long a0)]) hx hb d_Floats_longRoot_46 rfl hl (by decide) rfl (fun ls hl => ?_)
    refine lv_lload hx hb d_Floats_longRoot_47 (lv_at hl 3 rfl) ?_
    refine lv_lload hx hb d_Floats_longRoot_49 (lv_at hl 1 rfl) ?_
    refine W.lcmp hx hb d_Floats_longRoot_51 ?_
    refine lv_if_lt (tgt := 66) hx hb d_Floats_longRoot_52 (by decide) (fun c_1 => ?_) (fun c_1 => ?_)
    · rw [lg_cmp_lt] at c_1
      refine lv_iinc (v := nI (56 - k)) (lv' := [(8, .int (nI (56 - k))), (2, .long (shl_ v2 (1 : Int32))), (9, .long ((shl_ v2 (2 : Int32)) ||| (1 : Int64))), (6, .long (shl_ v6 (2 : Int32))), (4, .long ((shl_ v4 (2 : Int32)) ||| (ush_ v6 (62 : Int32)))), (0, .long a0)]) hx hb d_Floats_longRoot_66 hl (k := 4) rfl (by show nI (56 - (k + 1)) + 1 = nI (56 - k); rw [nI_1]; congr 1; omega) (by decide) rfl (fun ls hl => ?_)
      refine lv_goto (tgt := 11) hx hb d_Floats_longRoot_69 (by decide) ?_
      exact ih (by omega) (shl_ v2 (1 : Int32)) ((shl_ v4 (2 : Int32)) ||| (ush_ v6 (62 : Int32))) (shl_ v6 (2 : Int32)) ls (lv_sub hl [0, 1, 4, 3, 5] rfl) (by rw [hw, lf_Floats_longRoot, if_pos c_1])
    · rw [lg_cmp_lt] at c_1
      refine lv_lload hx hb d_Floats_longRoot_55 (lv_at hl 3 rfl) ?_
      refine lv_lload hx hb d_Floats_longRoot_57 (lv_at hl 1 rfl) ?_
      refine lv_lsub hx hb d_Floats_longRoot_59 ?_
      refine lv_lstore (lv' := [(4, .long (((shl_ v4 (2 : Int32)) ||| (ush_ v6 (62 : Int32))) - ((shl_ v2 (2 : Int32)) ||| (1 : Int64)))), (2, .long (shl_ v2 (1 : Int32))), (9, .long ((shl_ v2 (2 : Int32)) ||| (1 : Int64))), (6, .long (shl_ v6 (2 : Int32))), (8, .int (nI (56 - (k + 1)))), (0, .long a0)]) hx hb d_Floats_longRoot_60 hl (by decide) rfl (fun ls hl => ?_)
      refine lv_lload_n hx hb d_Floats_longRoot_62 rfl (lv_at hl 1 rfl) ?_
      refine lv_lconst (v := (1 : Int64)) hx hb d_Floats_longRoot_63 (by decide) ?_
      refine lv_lor hx hb d_Floats_longRoot_64 ?_
      refine lv_lstore_n (lv' := [(2, .long ((shl_ v2 (1 : Int32)) ||| (1 : Int64))), (4, .long (((shl_ v4 (2 : Int32)) ||| (ush_ v6 (62 : Int32))) - ((shl_ v2 (2 : Int32)) ||| (1 : Int64)))), (9, .long ((shl_ v2 (2 : Int32)) ||| (1 : Int64))), (6, .long (shl_ v6 (2 : Int32))), (8, .int (nI (56 - (k + 1)))), (0, .long a0)]) hx hb d_Floats_longRoot_65 rfl hl (by decide) rfl (fun ls hl => ?_)
      refine lv_iinc (v := nI (56 - k)) (lv' := [(8, .int (nI (56 - k))), (2, .long ((shl_ v2 (1 : Int32)) ||| (1 : Int64))), (4, .long (((shl_ v4 (2 : Int32)) ||| (ush_ v6 (62 : Int32))) - ((shl_ v2 (2 : Int32)) ||| (1 : Int64)))), (9, .long ((shl_ v2 (2 : Int32)) ||| (1 : Int64))), (6, .long (shl_ v6 (2 : Int32))), (0, .long a0)]) hx hb d_Floats_longRoot_66 hl (k := 4) rfl (by show nI (56 - (k + 1)) + 1 = nI (56 - k); rw [nI_1]; congr 1; omega) (by decide) rfl (fun ls hl => ?_)
      refine lv_goto (tgt := 11) hx hb d_Floats_longRoot_69 (by decide) ?_
      exact ih (by omega) ((shl_ v2 (1 : Int32)) ||| (1 : Int64)) (((shl_ v4 (2 : Int32)) ||| (ush_ v6 (62 : Int32))) - ((shl_ v2 (2 : Int32)) ||| (1 : Int64))) (shl_ v6 (2 : Int32)) ls (lv_sub hl [0, 1, 2, 4, 5] rfl) (by rw [hw, lf_Floats_longRoot, if_neg c_1])
def q_Floats_longRoot (a0 : Int64) : Int64 := lf_Floats_longRoot a0 56 (0 : Int64) (0 : Int64) a0
set_option maxHeartbeats 4000000 in
set_option maxRecDepth 100000 in
theorem c_Floats_longRoot (l : Launch) (A : Nat → Prop) (ad : Nat → Nat) (a0 : Int64) : Met l y_Floats_longRoot (Cond.code y_Floats_longRoot b_Floats_longRoot 11 (some .long) :: BT) ({ frames := 1, cells := 0, slots := 0, locals := 23 } : Room) (PC A ad [.long a0]) (vp_Sl (fun r => r = q_Floats_longRoot a0)) 0 0 (fun _ => False) := by
  refine pm_ (by decide +kernel) (Nat.le_of_ble_eq_true rfl) ?_
  intro p e s m below meth c hq hr hk ls hl
  have hx := hq.1
  have hb := hq.2.1
  have hts := hq.2.2.2.2.1
  have hl : lv_has ls 11 [(0, .long a0)] := hl
  refine lv_lconst (v := (0 : Int64)) hx hb d_Floats_longRoot_0 (by decide) ?_
  refine lv_lstore_n (lv' := [(2, .long (0 : Int64)), (0, .long a0)]) hx hb d_Floats_longRoot_1 rfl hl (by decide) rfl (fun ls hl => ?_)
  refine lv_lconst (v := (0 : Int64)) hx hb d_Floats_longRoot_2 (by decide) ?_
  refine lv_lstore (lv' := [(4, .long (0 : Int64)), (2, .long (0 : Int64)), (0, .long a0)]) hx hb d_Floats_longRoot_3 hl (by decide) rfl (fun ls hl => ?_)
  refine lv_lload_n hx hb d_Floats_longRoot_5 rfl (lv_at hl 2 rfl) ?_
  refine lv_lstore (lv' := [(6, .long a0), (4, .long (0 : Int64)), (2, .long (0 : Int64)), (0, .long a0)]) hx hb d_Floats_longRoot_6 hl (by decide) rfl (fun ls hl => ?_)
  refine lv_iconst (v := (0 : Int32)) hx hb d_Floats_longRoot_8 (by decide) ?_
  refine lv_istore (lv' := [(8, .int (0 : Int32)), (6, .long a0), (4, .long (0 : Int64)), (2, .long (0 : Int64)), (0, .long a0)]) hx hb d_Floats_longRoot_9 hl (by decide) rfl (fun ls hl => ?_)
  exact lp_Floats_longRoot hq hr hk a0 _ 56 (by omega) (0 : Int64) (0 : Int64) a0 ls (lv_sub hl [0, 3, 2, 1, 4] rfl) rfl
def q_Floats_quotient (j0 : Nat) (a1 : Int64) (a2 : Int64) : Int64 :=
  if (q_Form_isZero j0 a1) = 0 then
    if (q_Form_isInfinite j0 a1) = 0 then
      if (q_Form_isInfinite j0 a1) = 0 then
        if (q_Form_isZero j0 a2) = 0 then
          if (q_Form_isInfinite j0 a2) = 0 then
            if (q_Form_isZero j0 a1) = 0 then
              (q_Form_rounded j0 (q_Form_sign j0 (a1 ^^^ a2)) (q_Floats_longDivision (q_Floats_raised j0 a1) (q_Floats_raised j0 a2)) (((q_Floats_raisedScale j0 a1) - (q_Floats_raisedScale j0 a2)) - (59 : Int32)))
            else
              (q_Form_sign j0 (a1 ^^^ a2))
          else
            (q_Form_sign j0 (a1 ^^^ a2))
        else
          ((q_Form_sign j0 (a1 ^^^ a2)) ||| (fm_i j0))
      else
        ((q_Form_sign j0 (a1 ^^^ a2)) ||| (fm_i j0))
    else
      if (q_Form_isInfinite j0 a2) = 0 then
        if (q_Form_isInfinite j0 a1) = 0 then
          if (q_Form_isZero j0 a2) = 0 then
            if (q_Form_isInfinite j0 a2) = 0 then
              if (q_Form_isZero j0 a1) = 0 then
                (q_Form_rounded j0 (q_Form_sign j0 (a1 ^^^ a2)) (q_Floats_longDivision (q_Floats_raised j0 a1) (q_Floats_raised j0 a2)) (((q_Floats_raisedScale j0 a1) - (q_Floats_raisedScale j0 a2)) - (59 : Int32)))
              else
                (q_Form_sign j0 (a1 ^^^ a2))
            else
              (q_Form_sign j0 (a1 ^^^ a2))
          else
            ((q_Form_sign j0 (a1 ^^^ a2)) ||| (fm_i j0))
        else
          ((q_Form_sign j0 (a1 ^^^ a2)) ||| (fm_i j0))
      else
        (fm_n j0)
  else
    if (q_Form_isZero j0 a2) = 0 then
      if (q_Form_isInfinite j0 a1) = 0 then
        if (q_Form_isInfinite j0 a1) = 0 then
          if (q_Form_isZero j0 a2) = 0 then
            if (q_Form_isInfinite j0 a2) = 0 then
              if (q_Form_isZero j0 a1) = 0 then
                (q_Form_rounded j0 (q_Form_sign j0 (a1 ^^^ a2)) (q_Floats_longDivision (q_Floats_raised j0 a1) (q_Floats_raised j0 a2)) (((q_Floats_raisedScale j0 a1) - (q_Floats_raisedScale j0 a2)) - (59 : Int32)))
              else
                (q_Form_sign j0 (a1 ^^^ a2))
            else
              (q_Form_sign j0 (a1 ^^^ a2))
          else
            ((q_Form_sign j0 (a1 ^^^ a2)) ||| (fm_i j0))
        else
          ((q_Form_sign j0 (a1 ^^^ a2)) ||| (fm_i j0))
      else
        if (q_Form_isInfinite j0 a2) = 0 then
          if (q_Form_isInfinite j0 a1) = 0 then
            if (q_Form_isZero j0 a2) = 0 then
              if (q_Form_isInfinite j0 a2) = 0 then
                if (q_Form_isZero j0 a1) = 0 then
                  (q_Form_rounded j0 (q_Form_sign j0 (a1 ^^^ a2)) (q_Floats_longDivision (q_Floats_raised j0 a1) (q_Floats_raised j0 a2)) (((q_Floats_raisedScale j0 a1) - (q_Floats_raisedScale j0 a2)) - (59 : Int32)))
                else
                  (q_Form_sign j0 (a1 ^^^ a2))
              else
                (q_Form_sign j0 (a1 ^^^ a2))
            else
              ((q_Form_sign j0 (a1 ^^^ a2)) ||| (fm_i j0))
          else
            ((q_Form_sign j0 (a1 ^^^ a2)) ||| (fm_i j0))
        else
          (fm_n j0)
    else
      if (q_Form_isInfinite j0 a1) = 0 then
        (fm_n j0)
      else
        if (q_Form_isInfinite j0 a2) = 0 then
          (fm_n j0)
        else
          (fm_n j0)
theorem kB_Floats_quotient : SB y_Floats_quotient b_Floats_quotient 10 (some .long) 3 := ⟨wd_207, wd_208, wd_119, by decide +kernel⟩
set_option maxHeartbeats 4000000 in
set_option maxRecDepth 100000 in
theorem c_Floats_quotient (l : Launch) (A : Nat → Prop) (ad : Nat → Nat) (j0 : Nat) (hj0 : j0 < 2) (a1 : Int64) (a2 : Int64) : Met l y_Floats_quotient (Cond.code y_Floats_quotient b_Floats_quotient 10 (some .long) :: BT) ({ frames := 3, cells := 0, slots := 0, locals := 78 }) (PC A ad [.ref (ad j0), .long a1, .long a2]) (vp_Sl (fun r => r = q_Floats_quotient j0 a1 a2)) 0 0 (fun _ => False) := by
  refine pm_ (by decide +kernel) (Nat.le_of_ble_eq_true rfl) ?_
  intro p e s m below meth c hq hr hk ls hl
  have hx := hq.1
  have hb := hq.2.1
  have hts := hq.2.2.2.2.1
  have hl : lv_has ls 10 [(0, .ref (ad j0)), (1, .long a1), (3, .long a2)] := hl
  refine lv_aload_n hx hb d_Floats_quotient_0 rfl (lv_at hl 0 rfl) ?_
  refine lv_lload_n hx hb d_Floats_quotient_1 rfl (lv_at hl 1 rfl) ?_
  refine lv_lload_n hx hb d_Floats_quotient_2 rfl (lv_at hl 2 rfl) ?_
  refine lv_lxor hx hb d_Floats_quotient_3 ?_
  refine vl_ (As := [.long (a1 ^^^ a2)]) (rest := []) hq hj0 (c_Form_sign l A ad j0 hj0 (a1 ^^^ a2)) kB_Form_sign wd_115 ⟨rfl, rfl, Nat.le_of_ble_eq_true rfl, Nat.le_of_ble_eq_true rfl⟩ rfl hl.1 rfl (Nat.le_of_ble_eq_true rfl) d_Floats_quotient_4 ⟨Nat.zero_le _, Nat.zero_le _⟩ ?_
  refine lv_lstore (lv' := [(5, .long (q_Form_sign j0 (a1 ^^^ a2))), (0, .ref (ad j0)), (1, .long a1), (3, .long a2)]) hx hb d_Floats_quotient_7 hl (by decide) rfl (fun ls hl => ?_)
  refine lv_aload_n hx hb d_Floats_quotient_9 rfl (lv_at hl 1 rfl) ?_
  refine lv_lload_n hx hb d_Floats_quotient_10 rfl (lv_at hl 2 rfl) ?_
  refine vi_ (As := [.long a1]) (rest := []) hq hj0 (c_Form_isZero l A ad j0 hj0 a1) kB_Form_isZero wd_124 ⟨rfl, rfl, Nat.le_of_ble_eq_true rfl, Nat.le_of_ble_eq_true rfl⟩ rfl hl.1 rfl (Nat.le_of_ble_eq_true rfl) d_Floats_quotient_11 ⟨Nat.zero_le _, Nat.zero_le _⟩ ?_
  refine lv_if_eq (tgt := 29) hx hb d_Floats_quotient_14 (by decide) (fun c_1 => ?_) (fun c_1 => ?_)
  · refine lv_iconst (v := (0 : Int32)) hx hb d_Floats_quotient_29 (by decide) ?_
    refine lv_istore (lv' := [(7, .int (0 : Int32)), (5, .long (q_Form_sign j0 (a1 ^^^ a2))), (0, .ref (ad j0)), (1, .long a1), (3, .long a2)]) hx hb d_Floats_quotient_30 hl (by decide) rfl (fun ls hl => ?_)
    refine lv_aload_n hx hb d_Floats_quotient_32 rfl (lv_at hl 2 rfl) ?_
    refine lv_lload_n hx hb d_Floats_quotient_33 rfl (lv_at hl 3 rfl) ?_
    refine vi_ (As := [.long a1]) (rest := []) hq hj0 (c_Form_isInfinite l A ad j0 hj0 a1) kB_Form_isInfinite wd_133 ⟨rfl, rfl, Nat.le_of_ble_eq_true rfl, Nat.le_of_ble_eq_true rfl⟩ rfl hl.1 rfl (Nat.le_of_ble_eq_true rfl) d_Floats_quotient_34 ⟨Nat.zero_le _, Nat.zero_le _⟩ ?_
    refine lv_if_eq (tgt := 52) hx hb d_Floats_quotient_37 (by decide) (fun c_2 => ?_) (fun c_2 => ?_)
    · refine lv_iconst (v := (0 : Int32)) hx hb d_Floats_quotient_52 (by decide) ?_
      refine lv_istore (lv' := [(8, .int (0 : Int32)), (7, .int (0 : Int32)), (5, .long (q_Form_sign j0 (a1 ^^^ a2))), (0, .ref (ad j0)), (1, .long a1), (3, .long a2)]) hx hb d_Floats_quotient_53 hl (by decide) rfl (fun ls hl => ?_)
      refine lv_iload hx hb d_Floats_quotient_55 (lv_at hl 1 rfl) ?_
      refine lv_if_ne (tgt := 65) hx hb d_Floats_quotient_57 (by decide) (fun c => absurd (by decide) c) (fun _ => ?_)
      refine lv_iload hx hb d_Floats_quotient_60 (lv_at hl 0 rfl) ?_
      refine lv_if_eq (tgt := 70) hx hb d_Floats_quotient_62 (by decide) (fun _ => ?_) (fun c => absurd (by decide) c)
      refine lv_aload_n hx hb d_Floats_quotient_70 rfl (lv_at hl 3 rfl) ?_
      refine lv_lload_n hx hb d_Floats_quotient_71 rfl (lv_at hl 4 rfl) ?_
      refine vi_ (As := [.long a1]) (rest := []) hq hj0 (c_Form_isInfinite l A ad j0 hj0 a1) kB_Form_isInfinite wd_133 ⟨rfl, rfl, Nat.le_of_ble_eq_true rfl, Nat.le_of_ble_eq_true rfl⟩ rfl hl.1 rfl (Nat.le_of_ble_eq_true rfl) d_Floats_quotient_72 ⟨Nat.zero_le _, Nat.zero_le _⟩ ?_
      refine lv_if_ne (tgt := 86) hx hb d_Floats_quotient_75 (by decide) (fun c_3 => ?_) (fun c_3 => ?_)
      · refine lv_lload hx hb d_Floats_quotient_86 (lv_at hl 2 rfl) ?_
        refine lv_aload_n hx hb d_Floats_quotient_88 rfl (lv_at hl 3 rfl) ?_
        refine gf_i hq hj0 wd_143 d_Floats_quotient_89 ?_
        refine lv_lor hx hb d_Floats_quotient_92 ?_
        exact rl_ hx hb hr hk (by rw [q_Floats_quotient, if_pos c_1, if_pos c_2, if_neg c_3]) d_Floats_quotient_93
      · refine lv_aload_n hx hb d_Floats_quotient_78 rfl (lv_at hl 3 rfl) ?_
        refine lv_lload_n hx hb d_Floats_quotient_79 rfl (lv_at hl 5 rfl) ?_
        refine vi_ (As := [.long a2]) (rest := []) hq hj0 (c_Form_isZero l A ad j0 hj0 a2) kB_Form_isZero wd_124 ⟨rfl, rfl, Nat.le_of_ble_eq_true rfl, Nat.le_of_ble_eq_true rfl⟩ rfl hl.1 rfl (Nat.le_of_ble_eq_true rfl) d_Floats_quotient_80 ⟨Nat.zero_le _, Nat.zero_le _⟩ ?_
        refine lv_if_eq (tgt := 94) hx hb d_Floats_quotient_83 (by decide) (fun c_4 => ?_) (fun c_4 => ?_)
        · refine lv_aload_n hx hb d_Floats_quotient_94 rfl (lv_at hl 3 rfl) ?_
          refine lv_lload_n hx hb d_Floats_quotient_95 rfl (lv_at hl 5 rfl) ?_
          refine vi_ (As := [.long a2]) (rest := []) hq hj0 (c_Form_isInfinite l A ad j0 hj0 a2) kB_Form_isInfinite wd_133 ⟨rfl, rfl, Nat.le_of_ble_eq_true rfl, Nat.le_of_ble_eq_true rfl⟩ rfl hl.1 rfl (Nat.le_of_ble_eq_true rfl) d_Floats_quotient_96 ⟨Nat.zero_le _, Nat.zero_le _⟩ ?_
          refine lv_if_ne (tgt := 110) hx hb d_Floats_quotient_99 (by decide) (fun c_5 => ?_) (fun c_5 => ?_)
          · refine lv_lload hx hb d_Floats_quotient_110 (lv_at hl 2 rfl) ?_
            exact rl_ hx hb hr hk (by rw [q_Floats_quotient, if_pos c_1, if_pos c_2, if_pos c_3, if_pos c_4, if_neg c_5]) d_Floats_quotient_112
          · refine lv_aload_n hx hb d_Floats_quotient_102 rfl (lv_at hl 3 rfl) ?_
            refine lv_lload_n hx hb d_Floats_quotient_103 rfl (lv_at hl 4 rfl) ?_
            refine vi_ (As := [.long a1]) (rest := []) hq hj0 (c_Form_isZero l A ad j0 hj0 a1) kB_Form_isZero wd_124 ⟨rfl, rfl, Nat.le_of_ble_eq_true rfl, Nat.le_of_ble_eq_true rfl⟩ rfl hl.1 rfl (Nat.le_of_ble_eq_true rfl) d_Floats_quotient_104 ⟨Nat.zero_le _, Nat.zero_le _⟩ ?_
            refine lv_if_eq (tgt := 113) hx hb d_Floats_quotient_107 (by decide) (fun c_6 => ?_) (fun c_6 => ?_)
            · refine lv_aload_n hx hb d_Floats_quotient_113 rfl (lv_at hl 3 rfl) ?_
              refine lv_lload_n hx hb d_Floats_quotient_114 rfl (lv_at hl 4 rfl) ?_
              refine si_ (As := [.ref (ad j0), .long a1]) (rest := []) hq (c_Floats_raisedScale l A ad j0 hj0 a1) kB_Floats_raisedScale wd_147 ⟨rfl, rfl, Nat.le_of_ble_eq_true rfl, Nat.le_of_ble_eq_true rfl⟩ rfl hl.1 rfl (Nat.le_of_ble_eq_true rfl) d_Floats_quotient_115 ⟨Nat.zero_le _, Nat.zero_le _⟩ ?_
              refine lv_aload_n hx hb d_Floats_quotient_118 rfl (lv_at hl 3 rfl) ?_
              refine lv_lload_n hx hb d_Floats_quotient_119 rfl (lv_at hl 5 rfl) ?_
              refine si_ (As := [.ref (ad j0), .long a2]) (rest := [.int (q_Floats_raisedScale j0 a1)]) hq (c_Floats_raisedScale l A ad j0 hj0 a2) kB_Floats_raisedScale wd_147 ⟨rfl, rfl, Nat.le_of_ble_eq_true rfl, Nat.le_of_ble_eq_true rfl⟩ rfl hl.1 rfl (Nat.le_of_ble_eq_true rfl) d_Floats_quotient_120 ⟨Nat.zero_le _, Nat.zero_le _⟩ ?_
              refine lv_isub hx hb d_Floats_quotient_123 ?_
              refine lv_bipush (v := (59 : Int32)) hx hb d_Floats_quotient_124 (by decide) ?_
              refine lv_isub hx hb d_Floats_quotient_126 ?_
              refine lv_istore (lv' := [(9, .int (((q_Floats_raisedScale j0 a1) - (q_Floats_raisedScale j0 a2)) - (59 : Int32))), (8, .int (0 : Int32)), (7, .int (0 : Int32)), (5, .long (q_Form_sign j0 (a1 ^^^ a2))), (0, .ref (ad j0)), (1, .long a1), (3, .long a2)]) hx hb d_Floats_quotient_127 hl (by decide) rfl (fun ls hl => ?_)
              refine lv_aload_n hx hb d_Floats_quotient_129 rfl (lv_at hl 4 rfl) ?_
              refine lv_lload hx hb d_Floats_quotient_130 (lv_at hl 3 rfl) ?_
              refine lv_aload_n hx hb d_Floats_quotient_132 rfl (lv_at hl 4 rfl) ?_
              refine lv_lload_n hx hb d_Floats_quotient_133 rfl (lv_at hl 5 rfl) ?_
              refine sl_ (As := [.ref (ad j0), .long a1]) (rest := [.long (q_Form_sign j0 (a1 ^^^ a2)), .ref (ad j0)]) hq (c_Floats_raised l A ad j0 hj0 a1) kB_Floats_raised wd_144 ⟨rfl, rfl, Nat.le_of_ble_eq_true rfl, Nat.le_of_ble_eq_true rfl⟩ rfl hl.1 rfl (Nat.le_of_ble_eq_true rfl) d_Floats_quotient_134 ⟨Nat.zero_le _, Nat.zero_le _⟩ ?_
              refine lv_aload_n hx hb d_Floats_quotient_137 rfl (lv_at hl 4 rfl) ?_
              refine lv_lload_n hx hb d_Floats_quotient_138 rfl (lv_at hl 6 rfl) ?_
              refine sl_ (As := [.ref (ad j0), .long a2]) (rest := [.long (q_Floats_raised j0 a1), .long (q_Form_sign j0 (a1 ^^^ a2)), .ref (ad j0)]) hq (c_Floats_raised l A ad j0 hj0 a2) kB_Floats_raised wd_144 ⟨rfl, rfl, Nat.le_of_ble_eq_true rfl, Nat.le_of_ble_eq_true rfl⟩ rfl hl.1 rfl (Nat.le_of_ble_eq_true rfl) d_Floats_quotient_139 ⟨Nat.zero_le _, Nat.zero_le _⟩ ?_
              refine sl_ (As := [.long (q_Floats_raised j0 a1), .long (q_Floats_raised j0 a2)]) (rest := [.long (q_Form_sign j0 (a1 ^^^ a2)), .ref (ad j0)]) hq (c_Floats_longDivision l A ad (q_Floats_raised j0 a1) (q_Floats_raised j0 a2)) kB_Floats_longDivision wd_206 ⟨rfl, rfl, Nat.le_of_ble_eq_true rfl, Nat.le_of_ble_eq_true rfl⟩ rfl hl.1 rfl (Nat.le_of_ble_eq_true rfl) d_Floats_quotient_142 ⟨Nat.zero_le _, Nat.zero_le _⟩ ?_
              refine lv_iload hx hb d_Floats_quotient_145 (lv_at hl 0 rfl) ?_
              refine vl_ (As := [.long (q_Form_sign j0 (a1 ^^^ a2)), .long (q_Floats_longDivision (q_Floats_raised j0 a1) (q_Floats_raised j0 a2)), .int (((q_Floats_raisedScale j0 a1) - (q_Floats_raisedScale j0 a2)) - (59 : Int32))]) (rest := []) hq hj0 (c_Form_rounded l A ad j0 hj0 (q_Form_sign j0 (a1 ^^^ a2)) (q_Floats_longDivision (q_Floats_raised j0 a1) (q_Floats_raised j0 a2)) (((q_Floats_raisedScale j0 a1) - (q_Floats_raisedScale j0 a2)) - (59 : Int32))) kB_Form_rounded wd_130 ⟨rfl, rfl, Nat.le_of_ble_eq_true rfl, Nat.le_of_ble_eq_true rfl⟩ rfl hl.1 rfl (Nat.le_of_ble_eq_true rfl) d_Floats_quotient_147 ⟨Nat.zero_le _, Nat.zero_le _⟩ ?_
              exact rl_ hx hb hr hk (by rw [q_Floats_quotient, if_pos c_1, if_pos c_2, if_pos c_3, if_pos c_4, if_pos c_5, if_pos c_6]) d_Floats_quotient_150
            · refine lv_lload hx hb d_Floats_quotient_110 (lv_at hl 2 rfl) ?_
              exact rl_ hx hb hr hk (by rw [q_Floats_quotient, if_pos c_1, if_pos c_2, if_pos c_3, if_pos c_4, if_pos c_5, if_neg c_6]) d_Floats_quotient_112
        · refine lv_lload hx hb d_Floats_quotient_86 (lv_at hl 2 rfl) ?_
          refine lv_aload_n hx hb d_Floats_quotient_88 rfl (lv_at hl 3 rfl) ?_
          refine gf_i hq hj0 wd_143 d_Floats_quotient_89 ?_
          refine lv_lor hx hb d_Floats_quotient_92 ?_
          exact rl_ hx hb hr hk (by rw [q_Floats_quotient, if_pos c_1, if_pos c_2, if_pos c_3, if_neg c_4]) d_Floats_quotient_93
    · refine lv_aload_n hx hb d_Floats_quotient_40 rfl (lv_at hl 2 rfl) ?_
      refine lv_lload_n hx hb d_Floats_quotient_41 rfl (lv_at hl 4 rfl) ?_
      refine vi_ (As := [.long a2]) (rest := []) hq hj0 (c_Form_isInfinite l A ad j0 hj0 a2) kB_Form_isInfinite wd_133 ⟨rfl, rfl, Nat.le_of_ble_eq_true rfl, Nat.le_of_ble_eq_true rfl⟩ rfl hl.1 rfl (Nat.le_of_ble_eq_true rfl) d_Floats_quotient_42 ⟨Nat.zero_le _, Nat.zero_le _⟩ ?_
      refine lv_if_eq (tgt := 52) hx hb d_Floats_quotient_45 (by decide) (fun c_7 => ?_) (fun c_7 => ?_)
      · refine lv_iconst (v := (0 : Int32)) hx hb d_Floats_quotient_52 (by decide) ?_
        refine lv_istore (lv' := [(8, .int (0 : Int32)), (7, .int (0 : Int32)), (5, .long (q_Form_sign j0 (a1 ^^^ a2))), (0, .ref (ad j0)), (1, .long a1), (3, .long a2)]) hx hb d_Floats_quotient_53 hl (by decide) rfl (fun ls hl => ?_)
        refine lv_iload hx hb d_Floats_quotient_55 (lv_at hl 1 rfl) ?_
        refine lv_if_ne (tgt := 65) hx hb d_Floats_quotient_57 (by decide) (fun c => absurd (by decide) c) (fun _ => ?_)
        refine lv_iload hx hb d_Floats_quotient_60 (lv_at hl 0 rfl) ?_
        refine lv_if_eq (tgt := 70) hx hb d_Floats_quotient_62 (by decide) (fun _ => ?_) (fun c => absurd (by decide) c)
        refine lv_aload_n hx hb d_Floats_quotient_70 rfl (lv_at hl 3 rfl) ?_
        refine lv_lload_n hx hb d_Floats_quotient_71 rfl (lv_at hl 4 rfl) ?_
        refine vi_ (As := [.long a1]) (rest := []) hq hj0 (c_Form_isInfinite l A ad j0 hj0 a1) kB_Form_isInfinite wd_133 ⟨rfl, rfl, Nat.le_of_ble_eq_true rfl, Nat.le_of_ble_eq_true rfl⟩ rfl hl.1 rfl (Nat.le_of_ble_eq_true rfl) d_Floats_quotient_72 ⟨Nat.zero_le _, Nat.zero_le _⟩ ?_
        refine lv_if_ne (tgt := 86) hx hb d_Floats_quotient_75 (by decide) (fun c_8 => ?_) (fun c_8 => ?_)
        · refine lv_lload hx hb d_Floats_quotient_86 (lv_at hl 2 rfl) ?_
          refine lv_aload_n hx hb d_Floats_quotient_88 rfl (lv_at hl 3 rfl) ?_
          refine gf_i hq hj0 wd_143 d_Floats_quotient_89 ?_
          refine lv_lor hx hb d_Floats_quotient_92 ?_
          exact rl_ hx hb hr hk (by rw [q_Floats_quotient, if_pos c_1, if_neg c_2, if_pos c_7, if_neg c_8]) d_Floats_quotient_93
        · refine lv_aload_n hx hb d_Floats_quotient_78 rfl (lv_at hl 3 rfl) ?_
          refine lv_lload_n hx hb d_Floats_quotient_79 rfl (lv_at hl 5 rfl) ?_
          refine vi_ (As := [.long a2]) (rest := []) hq hj0 (c_Form_isZero l A ad j0 hj0 a2) kB_Form_isZero wd_124 ⟨rfl, rfl, Nat.le_of_ble_eq_true rfl, Nat.le_of_ble_eq_true rfl⟩ rfl hl.1 rfl (Nat.le_of_ble_eq_true rfl) d_Floats_quotient_80 ⟨Nat.zero_le _, Nat.zero_le _⟩ ?_
          refine lv_if_eq (tgt := 94) hx hb d_Floats_quotient_83 (by decide) (fun c_9 => ?_) (fun c_9 => ?_)
          · refine lv_aload_n hx hb d_Floats_quotient_94 rfl (lv_at hl 3 rfl) ?_
            refine lv_lload_n hx hb d_Floats_quotient_95 rfl (lv_at hl 5 rfl) ?_
            refine vi_ (As := [.long a2]) (rest := []) hq hj0 (c_Form_isInfinite l A ad j0 hj0 a2) kB_Form_isInfinite wd_133 ⟨rfl, rfl, Nat.le_of_ble_eq_true rfl, Nat.le_of_ble_eq_true rfl⟩ rfl hl.1 rfl (Nat.le_of_ble_eq_true rfl) d_Floats_quotient_96 ⟨Nat.zero_le _, Nat.zero_le _⟩ ?_
            refine lv_if_ne (tgt := 110) hx hb d_Floats_quotient_99 (by decide) (fun c_10 => ?_) (fun c_10 => ?_)
            · refine lv_lload hx hb d_Floats_quotient_110 (lv_at hl 2 rfl) ?_
              exact rl_ hx hb hr hk (by rw [q_Floats_quotient, if_pos c_1, if_neg c_2, if_pos c_7, if_pos c_8, if_pos c_9, if_neg c_10]) d_Floats_quotient_112
            · refine lv_aload_n hx hb d_Floats_quotient_102 rfl (lv_at hl 3 rfl) ?_
              refine lv_lload_n hx hb d_Floats_quotient_103 rfl (lv_at hl 4 rfl) ?_
              refine vi_ (As := [.long a1]) (rest := []) hq hj0 (c_Form_isZero l A ad j0 hj0 a1) kB_Form_isZero wd_124 ⟨rfl, rfl, Nat.le_of_ble_eq_true rfl, Nat.le_of_ble_eq_true rfl⟩ rfl hl.1 rfl (Nat.le_of_ble_eq_true rfl) d_Floats_quotient_104 ⟨Nat.zero_le _, Nat.zero_le _⟩ ?_
              refine lv_if_eq (tgt := 113) hx hb d_Floats_quotient_107 (by decide) (fun c_11 => ?_) (fun c_11 => ?_)
              · refine lv_aload_n hx hb d_Floats_quotient_113 rfl (lv_at hl 3 rfl) ?_
                refine lv_lload_n hx hb d_Floats_quotient_114 rfl (lv_at hl 4 rfl) ?_
                refine si_ (As := [.ref (ad j0), .long a1]) (rest := []) hq (c_Floats_raisedScale l A ad j0 hj0 a1) kB_Floats_raisedScale wd_147 ⟨rfl, rfl, Nat.le_of_ble_eq_true rfl, Nat.le_of_ble_eq_true rfl⟩ rfl hl.1 rfl (Nat.le_of_ble_eq_true rfl) d_Floats_quotient_115 ⟨Nat.zero_le _, Nat.zero_le _⟩ ?_
                refine lv_aload_n hx hb d_Floats_quotient_118 rfl (lv_at hl 3 rfl) ?_
                refine lv_lload_n hx hb d_Floats_quotient_119 rfl (lv_at hl 5 rfl) ?_
                refine si_ (As := [.ref (ad j0), .long a2]) (rest := [.int (q_Floats_raisedScale j0 a1)]) hq (c_Floats_raisedScale l A ad j0 hj0 a2) kB_Floats_raisedScale wd_147 ⟨rfl, rfl, Nat.le_of_ble_eq_true rfl, Nat.le_of_ble_eq_true rfl⟩ rfl hl.1 rfl (Nat.le_of_ble_eq_true rfl) d_Floats_quotient_120 ⟨Nat.zero_le _, Nat.zero_le _⟩ ?_
                refine lv_isub hx hb d_Floats_quotient_123 ?_
                refine lv_bipush (v := (59 : Int32)) hx hb d_Floats_quotient_124 (by decide) ?_
                refine lv_isub hx hb d_Floats_quotient_126 ?_
                refine lv_istore (lv' := [(9, .int (((q_Floats_raisedScale j0 a1) - (q_Floats_raisedScale j0 a2)) - (59 : Int32))), (8, .int (0 : Int32)), (7, .int (0 : Int32)), (5, .long (q_Form_sign j0 (a1 ^^^ a2))), (0, .ref (ad j0)), (1, .long a1), (3, .long a2)]) hx hb d_Floats_quotient_127 hl (by decide) rfl (fun ls hl => ?_)
                refine lv_aload_n hx hb d_Floats_quotient_129 rfl (lv_at hl 4 rfl) ?_
                refine lv_lload hx hb d_Floats_quotient_130 (lv_at hl 3 rfl) ?_
                refine lv_aload_n hx hb d_Floats_quotient_132 rfl (lv_at hl 4 rfl) ?_
                refine lv_lload_n hx hb d_Floats_quotient_133 rfl (lv_at hl 5 rfl) ?_
                refine sl_ (As := [.ref (ad j0), .long a1]) (rest := [.long (q_Form_sign j0 (a1 ^^^ a2)), .ref (ad j0)]) hq (c_Floats_raised l A ad j0 hj0 a1) kB_Floats_raised wd_144 ⟨rfl, rfl, Nat.le_of_ble_eq_true rfl, Nat.le_of_ble_eq_true rfl⟩ rfl hl.1 rfl (Nat.le_of_ble_eq_true rfl) d_Floats_quotient_134 ⟨Nat.zero_le _, Nat.zero_le _⟩ ?_
                refine lv_aload_n hx hb d_Floats_quotient_137 rfl (lv_at hl 4 rfl) ?_
                refine lv_lload_n hx hb d_Floats_quotient_138 rfl (lv_at hl 6 rfl) ?_
                refine sl_ (As := [.ref (ad j0), .long a2]) (rest := [.long (q_Floats_raised j0 a1), .long (q_Form_sign j0 (a1 ^^^ a2)), .ref (ad j0)]) hq (c_Floats_raised l A ad j0 hj0 a2) kB_Floats_raised wd_144 ⟨rfl, rfl, Nat.le_of_ble_eq_true rfl, Nat.le_of_ble_eq_true rfl⟩ rfl hl.1 rfl (Nat.le_of_ble_eq_true rfl) d_Floats_quotient_139 ⟨Nat.zero_le _, Nat.zero_le _⟩ ?_
                refine sl_ (As := [.long (q_Floats_raised j0 a1), .long (q_Floats_raised j0 a2)]) (rest := [.long (q_Form_sign j0 (a1 ^^^ a2)), .ref (ad j0)]) hq (c_Floats_longDivision l A ad (q_Floats_raised j0 a1) (q_Floats_raised j0 a2)) kB_Floats_longDivision wd_206 ⟨rfl, rfl, Nat.le_of_ble_eq_true rfl, Nat.le_of_ble_eq_true rfl⟩ rfl hl.1 rfl (Nat.le_of_ble_eq_true rfl) d_Floats_quotient_142 ⟨Nat.zero_le _, Nat.zero_le _⟩ ?_
                refine lv_iload hx hb d_Floats_quotient_145 (lv_at hl 0 rfl) ?_
                refine vl_ (As := [.long (q_Form_sign j0 (a1 ^^^ a2)), .long (q_Floats_longDivision (q_Floats_raised j0 a1) (q_Floats_raised j0 a2)), .int (((q_Floats_raisedScale j0 a1) - (q_Floats_raisedScale j0 a2)) - (59 : Int32))]) (rest := []) hq hj0 (c_Form_rounded l A ad j0 hj0 (q_Form_sign j0 (a1 ^^^ a2)) (q_Floats_longDivision (q_Floats_raised j0 a1) (q_Floats_raised j0 a2)) (((q_Floats_raisedScale j0 a1) - (q_Floats_raisedScale j0 a2)) - (59 : Int32))) kB_Form_rounded wd_130 ⟨rfl, rfl, Nat.le_of_ble_eq_true rfl, Nat.le_of_ble_eq_true rfl⟩ rfl hl.1 rfl (Nat.le_of_ble_eq_true rfl) d_Floats_quotient_147 ⟨Nat.zero_le _, Nat.zero_le _⟩ ?_
                exact rl_ hx hb hr hk (by rw [q_Floats_quotient, if_pos c_1, if_neg c_2, if_pos c_7, if_pos c_8, if_pos c_9, if_pos c_10, if_pos c_11]) d_Floats_quotient_150
              · refine lv_lload hx hb d_Floats_quotient_110 (lv_at hl 2 rfl) ?_
                exact rl_ hx hb hr hk (by rw [q_Floats_quotient, if_pos c_1, if_neg c_2, if_pos c_7, if_pos c_8, if_pos c_9, if_pos c_10, if_neg c_11]) d_Floats_quotient_112
          · refine lv_lload hx hb d_Floats_quotient_86 (lv_at hl 2 rfl) ?_
            refine lv_aload_n hx hb d_Floats_quotient_88 rfl (lv_at hl 3 rfl) ?_
            refine gf_i hq hj0 wd_143 d_Floats_quotient_89 ?_
            refine lv_lor hx hb d_Floats_quotient_92 ?_
            exact rl_ hx hb hr hk (by rw [q_Floats_quotient, if_pos c_1, if_neg c_2, if_pos c_7, if_pos c_8, if_neg c_9]) d_Floats_quotient_93
      · refine lv_iconst (v := (1 : Int32)) hx hb d_Floats_quotient_48 (by decide) ?_
        refine lv_goto (tgt := 53) hx hb d_Floats_quotient_49 (by decide) ?_
        refine lv_istore (lv' := [(8, .int (1 : Int32)), (7, .int (0 : Int32)), (5, .long (q_Form_sign j0 (a1 ^^^ a2))), (0, .ref (ad j0)), (1, .long a1), (3, .long a2)]) hx hb d_Floats_quotient_53 hl (by decide) rfl (fun ls hl => ?_)
        refine lv_iload hx hb d_Floats_quotient_55 (lv_at hl 1 rfl) ?_
        refine lv_if_ne (tgt := 65) hx hb d_Floats_quotient_57 (by decide) (fun c => absurd (by decide) c) (fun _ => ?_)
        refine lv_iload hx hb d_Floats_quotient_60 (lv_at hl 0 rfl) ?_
        refine lv_if_eq (tgt := 70) hx hb d_Floats_quotient_62 (by decide) (fun c => absurd c (by decide)) (fun _ => ?_)
        refine lv_aload_n hx hb d_Floats_quotient_65 rfl (lv_at hl 3 rfl) ?_
        refine gf_n hq hj0 wd_135 d_Floats_quotient_66 ?_
        exact rl_ hx hb hr hk (by rw [q_Floats_quotient, if_pos c_1, if_neg c_2, if_neg c_7]) d_Floats_quotient_69
  · refine lv_aload_n hx hb d_Floats_quotient_17 rfl (lv_at hl 1 rfl) ?_
    refine lv_lload_n hx hb d_Floats_quotient_18 rfl (lv_at hl 3 rfl) ?_
    refine vi_ (As := [.long a2]) (rest := []) hq hj0 (c_Form_isZero l A ad j0 hj0 a2) kB_Form_isZero wd_124 ⟨rfl, rfl, Nat.le_of_ble_eq_true rfl, Nat.le_of_ble_eq_true rfl⟩ rfl hl.1 rfl (Nat.le_of_ble_eq_true rfl) d_Floats_quotient_19 ⟨Nat.zero_le _, Nat.zero_le _⟩ ?_
    refine lv_if_eq (tgt := 29) hx hb d_Floats_quotient_22 (by decide) (fun c_12 => ?_) (fun c_12 => ?_)
    · refine lv_iconst (v := (0 : Int32)) hx hb d_Floats_quotient_29 (by decide) ?_
      refine lv_istore (lv' := [(7, .int (0 : Int32)), (5, .long (q_Form_sign j0 (a1 ^^^ a2))), (0, .ref (ad j0)), (1, .long a1), (3, .long a2)]) hx hb d_Floats_quotient_30 hl (by decide) rfl (fun ls hl => ?_)
      refine lv_aload_n hx hb d_Floats_quotient_32 rfl (lv_at hl 2 rfl) ?_
      refine lv_lload_n hx hb d_Floats_quotient_33 rfl (lv_at hl 3 rfl) ?_
      refine vi_ (As := [.long a1]) (rest := []) hq hj0 (c_Form_isInfinite l A ad j0 hj0 a1) kB_Form_isInfinite wd_133 ⟨rfl, rfl, Nat.le_of_ble_eq_true rfl, Nat.le_of_ble_eq_true rfl⟩ rfl hl.1 rfl (Nat.le_of_ble_eq_true rfl) d_Floats_quotient_34 ⟨Nat.zero_le _, Nat.zero_le _⟩ ?_
      refine lv_if_eq (tgt := 52) hx hb d_Floats_quotient_37 (by decide) (fun c_13 => ?_) (fun c_13 => ?_)
      · refine lv_iconst (v := (0 : Int32)) hx hb d_Floats_quotient_52 (by decide) ?_
        refine lv_istore (lv' := [(8, .int (0 : Int32)), (7, .int (0 : Int32)), (5, .long (q_Form_sign j0 (a1 ^^^ a2))), (0, .ref (ad j0)), (1, .long a1), (3, .long a2)]) hx hb d_Floats_quotient_53 hl (by decide) rfl (fun ls hl => ?_)
        refine lv_iload hx hb d_Floats_quotient_55 (lv_at hl 1 rfl) ?_
        refine lv_if_ne (tgt := 65) hx hb d_Floats_quotient_57 (by decide) (fun c => absurd (by decide) c) (fun _ => ?_)
        refine lv_iload hx hb d_Floats_quotient_60 (lv_at hl 0 rfl) ?_
        refine lv_if_eq (tgt := 70) hx hb d_Floats_quotient_62 (by decide) (fun _ => ?_) (fun c => absurd (by decide) c)
        refine lv_aload_n hx hb d_Floats_quotient_70 rfl (lv_at hl 3 rfl) ?_
        refine lv_lload_n hx hb d_Floats_quotient_71 rfl (lv_at hl 4 rfl) ?_
        refine vi_ (As := [.long a1]) (rest := []) hq hj0 (c_Form_isInfinite l A ad j0 hj0 a1) kB_Form_isInfinite wd_133 ⟨rfl, rfl, Nat.le_of_ble_eq_true rfl, Nat.le_of_ble_eq_true rfl⟩ rfl hl.1 rfl (Nat.le_of_ble_eq_true rfl) d_Floats_quotient_72 ⟨Nat.zero_le _, Nat.zero_le _⟩ ?_
        refine lv_if_ne (tgt := 86) hx hb d_Floats_quotient_75 (by decide) (fun c_14 => ?_) (fun c_14 => ?_)
        · refine lv_lload hx hb d_Floats_quotient_86 (lv_at hl 2 rfl) ?_
          refine lv_aload_n hx hb d_Floats_quotient_88 rfl (lv_at hl 3 rfl) ?_
          refine gf_i hq hj0 wd_143 d_Floats_quotient_89 ?_
          refine lv_lor hx hb d_Floats_quotient_92 ?_
          exact rl_ hx hb hr hk (by rw [q_Floats_quotient, if_neg c_1, if_pos c_12, if_pos c_13, if_neg c_14]) d_Floats_quotient_93
        · refine lv_aload_n hx hb d_Floats_quotient_78 rfl (lv_at hl 3 rfl) ?_
          refine lv_lload_n hx hb d_Floats_quotient_79 rfl (lv_at hl 5 rfl) ?_
          refine vi_ (As := [.long a2]) (rest := []) hq hj0 (c_Form_isZero l A ad j0 hj0 a2) kB_Form_isZero wd_124 ⟨rfl, rfl, Nat.le_of_ble_eq_true rfl, Nat.le_of_ble_eq_true rfl⟩ rfl hl.1 rfl (Nat.le_of_ble_eq_true rfl) d_Floats_quotient_80 ⟨Nat.zero_le _, Nat.zero_le _⟩ ?_
          refine lv_if_eq (tgt := 94) hx hb d_Floats_quotient_83 (by decide) (fun c_15 => ?_) (fun c_15 => ?_)
          · refine lv_aload_n hx hb d_Floats_quotient_94 rfl (lv_at hl 3 rfl) ?_
            refine lv_lload_n hx hb d_Floats_quotient_95 rfl (lv_at hl 5 rfl) ?_
            refine vi_ (As := [.long a2]) (rest := []) hq hj0 (c_Form_isInfinite l A ad j0 hj0 a2) kB_Form_isInfinite wd_133 ⟨rfl, rfl, Nat.le_of_ble_eq_true rfl, Nat.le_of_ble_eq_true rfl⟩ rfl hl.1 rfl (Nat.le_of_ble_eq_true rfl) d_Floats_quotient_96 ⟨Nat.zero_le _, Nat.zero_le _⟩ ?_
            refine lv_if_ne (tgt := 110) hx hb d_Floats_quotient_99 (by decide) (fun c_16 => ?_) (fun c_16 => ?_)
            · refine lv_lload hx hb d_Floats_quotient_110 (lv_at hl 2 rfl) ?_
              exact rl_ hx hb hr hk (by rw [q_Floats_quotient, if_neg c_1, if_pos c_12, if_pos c_13, if_pos c_14, if_pos c_15, if_neg c_16]) d_Floats_quotient_112
            · refine lv_aload_n hx hb d_Floats_quotient_102 rfl (lv_at hl 3 rfl) ?_
              refine lv_lload_n hx hb d_Floats_quotient_103 rfl (lv_at hl 4 rfl) ?_
              refine vi_ (As := [.long a1]) (rest := []) hq hj0 (c_Form_isZero l A ad j0 hj0 a1) kB_Form_isZero wd_124 ⟨rfl, rfl, Nat.le_of_ble_eq_true rfl, Nat.le_of_ble_eq_true rfl⟩ rfl hl.1 rfl (Nat.le_of_ble_eq_true rfl) d_Floats_quotient_104 ⟨Nat.zero_le _, Nat.zero_le _⟩ ?_
              refine lv_if_eq (tgt := 113) hx hb d_Floats_quotient_107 (by decide) (fun c_17 => ?_) (fun c_17 => ?_)
              · refine lv_aload_n hx hb d_Floats_quotient_113 rfl (lv_at hl 3 rfl) ?_
                refine lv_lload_n hx hb d_Floats_quotient_114 rfl (lv_at hl 4 rfl) ?_
                refine si_ (As := [.ref (ad j0), .long a1]) (rest := []) hq (c_Floats_raisedScale l A ad j0 hj0 a1) kB_Floats_raisedScale wd_147 ⟨rfl, rfl, Nat.le_of_ble_eq_true rfl, Nat.le_of_ble_eq_true rfl⟩ rfl hl.1 rfl (Nat.le_of_ble_eq_true rfl) d_Floats_quotient_115 ⟨Nat.zero_le _, Nat.zero_le _⟩ ?_
                refine lv_aload_n hx hb d_Floats_quotient_118 rfl (lv_at hl 3 rfl) ?_
                refine lv_lload_n hx hb d_Floats_quotient_119 rfl (lv_at hl 5 rfl) ?_
                refine si_ (As := [.ref (ad j0), .long a2]) (rest := [.int (q_Floats_raisedScale j0 a1)]) hq (c_Floats_raisedScale l A ad j0 hj0 a2) kB_Floats_raisedScale wd_147 ⟨rfl, rfl, Nat.le_of_ble_eq_true rfl, Nat.le_of_ble_eq_true rfl⟩ rfl hl.1 rfl (Nat.le_of_ble_eq_true rfl) d_Floats_quotient_120 ⟨Nat.zero_le _, Nat.zero_le _⟩ ?_
                refine lv_isub hx hb d_Floats_quotient_123 ?_
                refine lv_bipush (v := (59 : Int32)) hx hb d_Floats_quotient_124 (by decide) ?_
                refine lv_isub hx hb d_Floats_quotient_126 ?_
                refine lv_istore (lv' := [(9, .int (((q_Floats_raisedScale j0 a1) - (q_Floats_raisedScale j0 a2)) - (59 : Int32))), (8, .int (0 : Int32)), (7, .int (0 : Int32)), (5, .long (q_Form_sign j0 (a1 ^^^ a2))), (0, .ref (ad j0)), (1, .long a1), (3, .long a2)]) hx hb d_Floats_quotient_127 hl (by decide) rfl (fun ls hl => ?_)
                refine lv_aload_n hx hb d_Floats_quotient_129 rfl (lv_at hl 4 rfl) ?_
                refine lv_lload hx hb d_Floats_quotient_130 (lv_at hl 3 rfl) ?_
                refine lv_aload_n hx hb d_Floats_quotient_132 rfl (lv_at hl 4 rfl) ?_
                refine lv_lload_n hx hb d_Floats_quotient_133 rfl (lv_at hl 5 rfl) ?_
                refine sl_ (As := [.ref (ad j0), .long a1]) (rest := [.long (q_Form_sign j0 (a1 ^^^ a2)), .ref (ad j0)]) hq (c_Floats_raised l A ad j0 hj0 a1) kB_Floats_raised wd_144 ⟨rfl, rfl, Nat.le_of_ble_eq_true rfl, Nat.le_of_ble_eq_true rfl⟩ rfl hl.1 rfl (Nat.le_of_ble_eq_true rfl) d_Floats_quotient_134 ⟨Nat.zero_le _, Nat.zero_le _⟩ ?_
                refine lv_aload_n hx hb d_Floats_quotient_137 rfl (lv_at hl 4 rfl) ?_
                refine lv_lload_n hx hb d_Floats_quotient_138 rfl (lv_at hl 6 rfl) ?_
                refine sl_ (As := [.ref (ad j0), .long a2]) (rest := [.long (q_Floats_raised j0 a1), .long (q_Form_sign j0 (a1 ^^^ a2)), .ref (ad j0)]) hq (c_Floats_raised l A ad j0 hj0 a2) kB_Floats_raised wd_144 ⟨rfl, rfl, Nat.le_of_ble_eq_true rfl, Nat.le_of_ble_eq_true rfl⟩ rfl hl.1 rfl (Nat.le_of_ble_eq_true rfl) d_Floats_quotient_139 ⟨Nat.zero_le _, Nat.zero_le _⟩ ?_
                refine sl_ (As := [.long (q_Floats_raised j0 a1), .long (q_Floats_raised j0 a2)]) (rest := [.long (q_Form_sign j0 (a1 ^^^ a2)), .ref (ad j0)]) hq (c_Floats_longDivision l A ad (q_Floats_raised j0 a1) (q_Floats_raised j0 a2)) kB_Floats_longDivision wd_206 ⟨rfl, rfl, Nat.le_of_ble_eq_true rfl, Nat.le_of_ble_eq_true rfl⟩ rfl hl.1 rfl (Nat.le_of_ble_eq_true rfl) d_Floats_quotient_142 ⟨Nat.zero_le _, Nat.zero_le _⟩ ?_
                refine lv_iload hx hb d_Floats_quotient_145 (lv_at hl 0 rfl) ?_
                refine vl_ (As := [.long (q_Form_sign j0 (a1 ^^^ a2)), .long (q_Floats_longDivision (q_Floats_raised j0 a1) (q_Floats_raised j0 a2)), .int (((q_Floats_raisedScale j0 a1) - (q_Floats_raisedScale j0 a2)) - (59 : Int32))]) (rest := []) hq hj0 (c_Form_rounded l A ad j0 hj0 (q_Form_sign j0 (a1 ^^^ a2)) (q_Floats_longDivision (q_Floats_raised j0 a1) (q_Floats_raised j0 a2)) (((q_Floats_raisedScale j0 a1) - (q_Floats_raisedScale j0 a2)) - (59 : Int32))) kB_Form_rounded wd_130 ⟨rfl, rfl, Nat.le_of_ble_eq_true rfl, Nat.le_of_ble_eq_true rfl⟩ rfl hl.1 rfl (Nat.le_of_ble_eq_true rfl) d_Floats_quotient_147 ⟨Nat.zero_le _, Nat.zero_le _⟩ ?_
                exact rl_ hx hb hr hk (by rw [q_Floats_quotient, if_neg c_1, if_pos c_12, if_pos c_13, if_pos c_14, if_pos c_15, if_pos c_16, if_pos c_17]) d_Floats_quotient_150
              · refine lv_lload hx hb d_Floats_quotient_110 (lv_at hl 2 rfl) ?_
                exact rl_ hx hb hr hk (by rw [q_Floats_quotient, if_neg c_1, if_pos c_12, if_pos c_13, if_pos c_14, if_pos c_15, if_pos c_16, if_neg c_17]) d_Floats_quotient_112
          · refine lv_lload hx hb d_Floats_quotient_86 (lv_at hl 2 rfl) ?_
            refine lv_aload_n hx hb d_Floats_quotient_88 rfl (lv_at hl 3 rfl) ?_
            refine gf_i hq hj0 wd_143 d_Floats_quotient_89 ?_
            refine lv_lor hx hb d_Floats_quotient_92 ?_
            exact rl_ hx hb hr hk (by rw [q_Floats_quotient, if_neg c_1, if_pos c_12, if_pos c_13, if_pos c_14, if_neg c_15]) d_Floats_quotient_93
      · refine lv_aload_n hx hb d_Floats_quotient_40 rfl (lv_at hl 2 rfl) ?_
        refine lv_lload_n hx hb d_Floats_quotient_41 rfl (lv_at hl 4 rfl) ?_
        refine vi_ (As := [.long a2]) (rest := []) hq hj0 (c_Form_isInfinite l A ad j0 hj0 a2) kB_Form_isInfinite wd_133 ⟨rfl, rfl, Nat.le_of_ble_eq_true rfl, Nat.le_of_ble_eq_true rfl⟩ rfl hl.1 rfl (Nat.le_of_ble_eq_true rfl) d_Floats_quotient_42 ⟨Nat.zero_le _, Nat.zero_le _⟩ ?_
        refine lv_if_eq (tgt := 52) hx hb d_Floats_quotient_45 (by decide) (fun c_18 => ?_) (fun c_18 => ?_)
        · refine lv_iconst (v := (0 : Int32)) hx hb d_Floats_quotient_52 (by decide) ?_
          refine lv_istore (lv' := [(8, .int (0 : Int32)), (7, .int (0 : Int32)), (5, .long (q_Form_sign j0 (a1 ^^^ a2))), (0, .ref (ad j0)), (1, .long a1), (3, .long a2)]) hx hb d_Floats_quotient_53 hl (by decide) rfl (fun ls hl => ?_)
          refine lv_iload hx hb d_Floats_quotient_55 (lv_at hl 1 rfl) ?_
          refine lv_if_ne (tgt := 65) hx hb d_Floats_quotient_57 (by decide) (fun c => absurd (by decide) c) (fun _ => ?_)
          refine lv_iload hx hb d_Floats_quotient_60 (lv_at hl 0 rfl) ?_
          refine lv_if_eq (tgt := 70) hx hb d_Floats_quotient_62 (by decide) (fun _ => ?_) (fun c => absurd (by decide) c)
          refine lv_aload_n hx hb d_Floats_quotient_70 rfl (lv_at hl 3 rfl) ?_
          refine lv_lload_n hx hb d_Floats_quotient_71 rfl (lv_at hl 4 rfl) ?_
          refine vi_ (As := [.long a1]) (rest := []) hq hj0 (c_Form_isInfinite l A ad j0 hj0 a1) kB_Form_isInfinite wd_133 ⟨rfl, rfl, Nat.le_of_ble_eq_true rfl, Nat.le_of_ble_eq_true rfl⟩ rfl hl.1 rfl (Nat.le_of_ble_eq_true rfl) d_Floats_quotient_72 ⟨Nat.zero_le _, Nat.zero_le _⟩ ?_
          refine lv_if_ne (tgt := 86) hx hb d_Floats_quotient_75 (by decide) (fun c_19 => ?_) (fun c_19 => ?_)
          · refine lv_lload hx hb d_Floats_quotient_86 (lv_at hl 2 rfl) ?_
            refine lv_aload_n hx hb d_Floats_quotient_88 rfl (lv_at hl 3 rfl) ?_
            refine gf_i hq hj0 wd_143 d_Floats_quotient_89 ?_
            refine lv_lor hx hb d_Floats_quotient_92 ?_
            exact rl_ hx hb hr hk (by rw [q_Floats_quotient, if_neg c_1, if_pos c_12, if_neg c_13, if_pos c_18, if_neg c_19]) d_Floats_quotient_93
          · refine lv_aload_n hx hb d_Floats_quotient_78 rfl (lv_at hl 3 rfl) ?_
            refine lv_lload_n hx hb d_Floats_quotient_79 rfl (lv_at hl 5 rfl) ?_
            refine vi_ (As := [.long a2]) (rest := []) hq hj0 (c_Form_isZero l A ad j0 hj0 a2) kB_Form_isZero wd_124 ⟨rfl, rfl, Nat.le_of_ble_eq_true rfl, Nat.le_of_ble_eq_true rfl⟩ rfl hl.1 rfl (Nat.le_of_ble_eq_true rfl) d_Floats_quotient_80 ⟨Nat.zero_le _, Nat.zero_le _⟩ ?_
            refine lv_if_eq (tgt := 94) hx hb d_Floats_quotient_83 (by decide) (fun c_20 => ?_) (fun c_20 => ?_)
            · refine lv_aload_n hx hb d_Floats_quotient_94 rfl (lv_at hl 3 rfl) ?_
              refine lv_lload_n hx hb d_Floats_quotient_95 rfl (lv_at hl 5 rfl) ?_
              refine vi_ (As := [.long a2]) (rest := []) hq hj0 (c_Form_isInfinite l A ad j0 hj0 a2) kB_Form_isInfinite wd_133 ⟨rfl, rfl, Nat.le_of_ble_eq_true rfl, Nat.le_of_ble_eq_true rfl⟩ rfl hl.1 rfl (Nat.le_of_ble_eq_true rfl) d_Floats_quotient_96 ⟨Nat.zero_le _, Nat.zero_le _⟩ ?_
              refine lv_if_ne (tgt := 110) hx hb d_Floats_quotient_99 (by decide) (fun c_21 => ?_) (fun c_21 => ?_)
              · refine lv_lload hx hb d_Floats_quotient_110 (lv_at hl 2 rfl) ?_
                exact rl_ hx hb hr hk (by rw [q_Floats_quotient, if_neg c_1, if_pos c_12, if_neg c_13, if_pos c_18, if_pos c_19, if_pos c_20, if_neg c_21]) d_Floats_quotient_112
              · refine lv_aload_n hx hb d_Floats_quotient_102 rfl (lv_at hl 3 rfl) ?_
                refine lv_lload_n hx hb d_Floats_quotient_103 rfl (lv_at hl 4 rfl) ?_
                refine vi_ (As := [.long a1]) (rest := []) hq hj0 (c_Form_isZero l A ad j0 hj0 a1) kB_Form_isZero wd_124 ⟨rfl, rfl, Nat.le_of_ble_eq_true rfl, Nat.le_of_ble_eq_true rfl⟩ rfl hl.1 rfl (Nat.le_of_ble_eq_true rfl) d_Floats_quotient_104 ⟨Nat.zero_le _, Nat.zero_le _⟩ ?_
                refine lv_if_eq (tgt := 113) hx hb d_Floats_quotient_107 (by decide) (fun c_22 => ?_) (fun c_22 => ?_)
                · refine lv_aload_n hx hb d_Floats_quotient_113 rfl (lv_at hl 3 rfl) ?_
                  refine lv_lload_n hx hb d_Floats_quotient_114 rfl (lv_at hl 4 rfl) ?_
                  refine si_ (As := [.ref (ad j0), .long a1]) (rest := []) hq (c_Floats_raisedScale l A ad j0 hj0 a1) kB_Floats_raisedScale wd_147 ⟨rfl, rfl, Nat.le_of_ble_eq_true rfl, Nat.le_of_ble_eq_true rfl⟩ rfl hl.1 rfl (Nat.le_of_ble_eq_true rfl) d_Floats_quotient_115 ⟨Nat.zero_le _, Nat.zero_le _⟩ ?_
                  refine lv_aload_n hx hb d_Floats_quotient_118 rfl (lv_at hl 3 rfl) ?_
                  refine lv_lload_n hx hb d_Floats_quotient_119 rfl (lv_at hl 5 rfl) ?_
                  refine si_ (As := [.ref (ad j0), .long a2]) (rest := [.int (q_Floats_raisedScale j0 a1)]) hq (c_Floats_raisedScale l A ad j0 hj0 a2) kB_Floats_raisedScale wd_147 ⟨rfl, rfl, Nat.le_of_ble_eq_true rfl, Nat.le_of_ble_eq_true rfl⟩ rfl hl.1 rfl (Nat.le_of_ble_eq_true rfl) d_Floats_quotient_120 ⟨Nat.zero_le _, Nat.zero_le _⟩ ?_
                  refine lv_isub hx hb d_Floats_quotient_123 ?_
                  refine lv_bipush (v := (59 : Int32)) hx hb d_Floats_quotient_124 (by decide) ?_
                  refine lv_isub hx hb d_Floats_quotient_126 ?_
                  refine lv_istore (lv' := [(9, .int (((q_Floats_raisedScale j0 a1) - (q_Floats_raisedScale j0 a2)) - (59 : Int32))), (8, .int (0 : Int32)), (7, .int (0 : Int32)), (5, .long (q_Form_sign j0 (a1 ^^^ a2))), (0, .ref (ad j0)), (1, .long a1), (3, .long a2)]) hx hb d_Floats_quotient_127 hl (by decide) rfl (fun ls hl => ?_)
                  refine lv_aload_n hx hb d_Floats_quotient_129 rfl (lv_at hl 4 rfl) ?_
                  refine lv_lload hx hb d_Floats_quotient_130 (lv_at hl 3 rfl) ?_
                  refine lv_aload_n hx hb d_Floats_quotient_132 rfl (lv_at hl 4 rfl) ?_
                  refine lv_lload_n hx hb d_Floats_quotient_133 rfl (lv_at hl 5 rfl) ?_
                  refine sl_ (As := [.ref (ad j0), .long a1]) (rest := [.long (q_Form_sign j0 (a1 ^^^ a2)), .ref (ad j0)]) hq (c_Floats_raised l A ad j0 hj0 a1) kB_Floats_raised wd_144 ⟨rfl, rfl, Nat.le_of_ble_eq_true rfl, Nat.le_of_ble_eq_true rfl⟩ rfl hl.1 rfl (Nat.le_of_ble_eq_true rfl) d_Floats_quotient_134 ⟨Nat.zero_le _, Nat.zero_le _⟩ ?_
                  refine lv_aload_n hx hb d_Floats_quotient_137 rfl (lv_at hl 4 rfl) ?_
                  refine lv_lload_n hx hb d_Floats_quotient_138 rfl (lv_at hl 6 rfl) ?_
                  refine sl_ (As := [.ref (ad j0), .long a2]) (rest := [.long (q_Floats_raised j0 a1), .long (q_Form_sign j0 (a1 ^^^ a2)), .ref (ad j0)]) hq (c_Floats_raised l A ad j0 hj0 a2) kB_Floats_raised wd_144 ⟨rfl, rfl, Nat.le_of_ble_eq_true rfl, Nat.le_of_ble_eq_true rfl⟩ rfl hl.1 rfl (Nat.le_of_ble_eq_true rfl) d_Floats_quotient_139 ⟨Nat.zero_le _, Nat.zero_le _⟩ ?_
                  refine sl_ (As := [.long (q_Floats_raised j0 a1), .long (q_Floats_raised j0 a2)]) (rest := [.long (q_Form_sign j0 (a1 ^^^ a2)), .ref (ad j0)]) hq (c_Floats_longDivision l A ad (q_Floats_raised j0 a1) (q_Floats_raised j0 a2)) kB_Floats_longDivision wd_206 ⟨rfl, rfl, Nat.le_of_ble_eq_true rfl, Nat.le_of_ble_eq_true rfl⟩ rfl hl.1 rfl (Nat.le_of_ble_eq_true rfl) d_Floats_quotient_142 ⟨Nat.zero_le _, Nat.zero_le _⟩ ?_
                  refine lv_iload hx hb d_Floats_quotient_145 (lv_at hl 0 rfl) ?_
                  refine vl_ (As := [.long (q_Form_sign j0 (a1 ^^^ a2)), .long (q_Floats_longDivision (q_Floats_raised j0 a1) (q_Floats_raised j0 a2)), .int (((q_Floats_raisedScale j0 a1) - (q_Floats_raisedScale j0 a2)) - (59 : Int32))]) (rest := []) hq hj0 (c_Form_rounded l A ad j0 hj0 (q_Form_sign j0 (a1 ^^^ a2)) (q_Floats_longDivision (q_Floats_raised j0 a1) (q_Floats_raised j0 a2)) (((q_Floats_raisedScale j0 a1) - (q_Floats_raisedScale j0 a2)) - (59 : Int32))) kB_Form_rounded wd_130 ⟨rfl, rfl, Nat.le_of_ble_eq_true rfl, Nat.le_of_ble_eq_true rfl⟩ rfl hl.1 rfl (Nat.le_of_ble_eq_true rfl) d_Floats_quotient_147 ⟨Nat.zero_le _, Nat.zero_le _⟩ ?_
                  exact rl_ hx hb hr hk (by rw [q_Floats_quotient, if_neg c_1, if_pos c_12, if_neg c_13, if_pos c_18, if_pos c_19, if_pos c_20, if_pos c_21, if_pos c_22]) d_Floats_quotient_150
                · refine lv_lload hx hb d_Floats_quotient_110 (lv_at hl 2 rfl) ?_
                  exact rl_ hx hb hr hk (by rw [q_Floats_quotient, if_neg c_1, if_pos c_12, if_neg c_13, if_pos c_18, if_pos c_19, if_pos c_20, if_pos c_21, if_neg c_22]) d_Floats_quotient_112
            · refine lv_lload hx hb d_Floats_quotient_86 (lv_at hl 2 rfl) ?_
              refine lv_aload_n hx hb d_Floats_quotient_88 rfl (lv_at hl 3 rfl) ?_
              refine gf_i hq hj0 wd_143 d_Floats_quotient_89 ?_
              refine lv_lor hx hb d_Floats_quotient_92 ?_
              exact rl_ hx hb hr hk (by rw [q_Floats_quotient, if_neg c_1, if_pos c_12, if_neg c_13, if_pos c_18, if_pos c_19, if_neg c_20]) d_Floats_quotient_93
        · refine lv_iconst (v := (1 : Int32)) hx hb d_Floats_quotient_48 (by decide) ?_
          refine lv_goto (tgt := 53) hx hb d_Floats_quotient_49 (by decide) ?_
          refine lv_istore (lv' := [(8, .int (1 : Int32)), (7, .int (0 : Int32)), (5, .long (q_Form_sign j0 (a1 ^^^ a2))), (0, .ref (ad j0)), (1, .long a1), (3, .long a2)]) hx hb d_Floats_quotient_53 hl (by decide) rfl (fun ls hl => ?_)
          refine lv_iload hx hb d_Floats_quotient_55 (lv_at hl 1 rfl) ?_
          refine lv_if_ne (tgt := 65) hx hb d_Floats_quotient_57 (by decide) (fun c => absurd (by decide) c) (fun _ => ?_)
          refine lv_iload hx hb d_Floats_quotient_60 (lv_at hl 0 rfl) ?_
          refine lv_if_eq (tgt := 70) hx hb d_Floats_quotient_62 (by decide) (fun c => absurd c (by decide)) (fun _ => ?_)
          refine lv_aload_n hx hb d_Floats_quotient_65 rfl (lv_at hl 3 rfl) ?_
          refine gf_n hq hj0 wd_135 d_Floats_quotient_66 ?_
          exact rl_ hx hb hr hk (by rw [q_Floats_quotient, if_neg c_1, if_pos c_12, if_neg c_13, if_neg c_18]) d_Floats_quotient_69
    · refine lv_iconst (v := (1 : Int32)) hx hb d_Floats_quotient_25 (by decide) ?_
      refine lv_goto (tgt := 30) hx hb d_Floats_quotient_26 (by decide) ?_
      refine lv_istore (lv' := [(7, .int (1 : Int32)), (5, .long (q_Form_sign j0 (a1 ^^^ a2))), (0, .ref (ad j0)), (1, .long a1), (3, .long a2)]) hx hb d_Floats_quotient_30 hl (by decide) rfl (fun ls hl => ?_)
      refine lv_aload_n hx hb d_Floats_quotient_32 rfl (lv_at hl 2 rfl) ?_
      refine lv_lload_n hx hb d_Floats_quotient_33 rfl (lv_at hl 3 rfl) ?_
      refine vi_ (As := [.long a1]) (rest := []) hq hj0 (c_Form_isInfinite l A ad j0 hj0 a1) kB_Form_isInfinite wd_133 ⟨rfl, rfl, Nat.le_of_ble_eq_true rfl, Nat.le_of_ble_eq_true rfl⟩ rfl hl.1 rfl (Nat.le_of_ble_eq_true rfl) d_Floats_quotient_34 ⟨Nat.zero_le _, Nat.zero_le _⟩ ?_
      refine lv_if_eq (tgt := 52) hx hb d_Floats_quotient_37 (by decide) (fun c_23 => ?_) (fun c_23 => ?_)
      · refine lv_iconst (v := (0 : Int32)) hx hb d_Floats_quotient_52 (by decide) ?_
        refine lv_istore (lv' := [(8, .int (0 : Int32)), (7, .int (1 : Int32)), (5, .long (q_Form_sign j0 (a1 ^^^ a2))), (0, .ref (ad j0)), (1, .long a1), (3, .long a2)]) hx hb d_Floats_quotient_53 hl (by decide) rfl (fun ls hl => ?_)
        refine lv_iload hx hb d_Floats_quotient_55 (lv_at hl 1 rfl) ?_
        refine lv_if_ne (tgt := 65) hx hb d_Floats_quotient_57 (by decide) (fun _ => ?_) (fun c => absurd c (by decide))
        refine lv_aload_n hx hb d_Floats_quotient_65 rfl (lv_at hl 3 rfl) ?_
        refine gf_n hq hj0 wd_135 d_Floats_quotient_66 ?_
        exact rl_ hx hb hr hk (by rw [q_Floats_quotient, if_neg c_1, if_neg c_12, if_pos c_23]) d_Floats_quotient_69
      · refine lv_aload_n hx hb d_Floats_quotient_40 rfl (lv_at hl 2 rfl) ?_
        refine lv_lload_n hx hb d_Floats_quotient_41 rfl (lv_at hl 4 rfl) ?_
        refine vi_ (As := [.long a2]) (rest := []) hq hj0 (c_Form_isInfinite l A ad j0 hj0 a2) kB_Form_isInfinite wd_133 ⟨rfl, rfl, Nat.le_of_ble_eq_true rfl, Nat.le_of_ble_eq_true rfl⟩ rfl hl.1 rfl (Nat.le_of_ble_eq_true rfl) d_Floats_quotient_42 ⟨Nat.zero_le _, Nat.zero_le _⟩ ?_
        refine lv_if_eq (tgt := 52) hx hb d_Floats_quotient_45 (by decide) (fun c_24 => ?_) (fun c_24 => ?_)
        · refine lv_iconst (v := (0 : Int32)) hx hb d_Floats_quotient_52 (by decide) ?_
          refine lv_istore (lv' := [(8, .int (0 : Int32)), (7, .int (1 : Int32)), (5, .long (q_Form_sign j0 (a1 ^^^ a2))), (0, .ref (ad j0)), (1, .long a1), (3, .long a2)]) hx hb d_Floats_quotient_53 hl (by decide) rfl (fun ls hl => ?_)
          refine lv_iload hx hb d_Floats_quotient_55 (lv_at hl 1 rfl) ?_
          refine lv_if_ne (tgt := 65) hx hb d_Floats_quotient_57 (by decide) (fun _ => ?_) (fun c => absurd c (by decide))
          refine lv_aload_n hx hb d_Floats_quotient_65 rfl (lv_at hl 3 rfl) ?_
          refine gf_n hq hj0 wd_135 d_Floats_quotient_66 ?_
          exact rl_ hx hb hr hk (by rw [q_Floats_quotient, if_neg c_1, if_neg c_12, if_neg c_23, if_pos c_24]) d_Floats_quotient_69
        · refine lv_iconst (v := (1 : Int32)) hx hb d_Floats_quotient_48 (by decide) ?_
          refine lv_goto (tgt := 53) hx hb d_Floats_quotient_49 (by decide) ?_
          refine lv_istore (lv' := [(8, .int (1 : Int32)), (7, .int (1 : Int32)), (5, .long (q_Form_sign j0 (a1 ^^^ a2))), (0, .ref (ad j0)), (1, .long a1), (3, .long a2)]) hx hb d_Floats_quotient_53 hl (by decide) rfl (fun ls hl => ?_)
          refine lv_iload hx hb d_Floats_quotient_55 (lv_at hl 1 rfl) ?_
          refine lv_if_ne (tgt := 65) hx hb d_Floats_quotient_57 (by decide) (fun _ => ?_) (fun c => absurd c (by decide))
          refine lv_aload_n hx hb d_Floats_quotient_65 rfl (lv_at hl 3 rfl) ?_
          refine gf_n hq hj0 wd_135 d_Floats_quotient_66 ?_
          exact rl_ hx hb hr hk (by rw [q_Floats_quotient, if_neg c_1, if_neg c_12, if_neg c_23, if_neg c_24]) d_Floats_quotient_69
def q_Floats_root (j0 : Nat) (a1 : Int64) : Int64 :=
  if (q_Form_isZero j0 a1) = 0 then
    if (q_Form_sign j0 a1) = (0 : Int64) then
      if (q_Form_isInfinite j0 a1) = 0 then
        (q_Form_rounded j0 (0 : Int64) (q_Floats_longRoot (shl_ (q_Floats_raised j0 a1) ((q_Floats_raisedScale j0 a1) &&& (1 : Int32)))) ((((q_Floats_raisedScale j0 a1) - ((q_Floats_raisedScale j0 a1) &&& (1 : Int32))) >>> ((1 : Int32) &&& 31)) - (24 : Int32)))
      else
        a1
    else
      (fm_n j0)
  else
    a1
theorem kB_Floats_root : SB y_Floats_root b_Floats_root 7 (some .long) 2 := ⟨wd_210, wd_211, wd_119, by decide +kernel⟩
set_option maxHeartbeats 4000000 in
set_option maxRecDepth 100000 in
theorem c_Floats_root (l : Launch) (A : Nat → Prop) (ad : Nat → Nat) (j0 : Nat) (hj0 : j0 < 2) (a1 : Int64) : Met l y_Floats_root (Cond.code y_Floats_root b_Floats_root 7 (some .long) :: BT) ({ frames := 3, cells := 0, slots := 0, locals := 78 }) (PC A ad [.ref (ad j0), .long a1]) (vp_Sl (fun r => r = q_Floats_root j0 a1)) 0 0 (fun _ => False) := by
  refine pm_ (by decide +kernel) (Nat.le_of_ble_eq_true rfl) ?_
  intro p e s m below meth c hq hr hk ls hl
  have hx := hq.1
  have hb := hq.2.1
  have hts := hq.2.2.2.2.1
  have hl : lv_has ls 7 [(0, .ref (ad j0)), (1, .long a1)] := hl
  refine lv_aload_n hx hb d_Floats_root_0 rfl (lv_at hl 0 rfl) ?_
  refine lv_lload_n hx hb d_Floats_root_1 rfl (lv_at hl 1 rfl) ?_
  refine vi_ (As := [.long a1]) (rest := []) hq hj0 (c_Form_isZero l A ad j0 hj0 a1) kB_Form_isZero wd_124 ⟨rfl, rfl, Nat.le_of_ble_eq_true rfl, Nat.le_of_ble_eq_true rfl⟩ rfl hl.1 rfl (Nat.le_of_ble_eq_true rfl) d_Floats_root_2 ⟨Nat.zero_le _, Nat.zero_le _⟩ ?_
  refine lv_if_eq (tgt := 10) hx hb d_Floats_root_5 (by decide) (fun c_1 => ?_) (fun c_1 => ?_)
  · refine lv_aload_n hx hb d_Floats_root_10 rfl (lv_at hl 0 rfl) ?_
    refine lv_lload_n hx hb d_Floats_root_11 rfl (lv_at hl 1 rfl) ?_
    refine vl_ (As := [.long a1]) (rest := []) hq hj0 (c_Form_sign l A ad j0 hj0 a1) kB_Form_sign wd_115 ⟨rfl, rfl, Nat.le_of_ble_eq_true rfl, Nat.le_of_ble_eq_true rfl⟩ rfl hl.1 rfl (Nat.le_of_ble_eq_true rfl) d_Floats_root_12 ⟨Nat.zero_le _, Nat.zero_le _⟩ ?_
    refine lv_lconst (v := (0 : Int64)) hx hb d_Floats_root_15 (by decide) ?_
    refine W.lcmp hx hb d_Floats_root_16 ?_
    refine lv_if_eq (tgt := 25) hx hb d_Floats_root_17 (by decide) (fun c_2 => ?_) (fun c_2 => ?_)
    · rw [lg_cmp_eq] at c_2
      refine lv_aload_n hx hb d_Floats_root_25 rfl (lv_at hl 0 rfl) ?_
      refine lv_lload_n hx hb d_Floats_root_26 rfl (lv_at hl 1 rfl) ?_
      refine vi_ (As := [.long a1]) (rest := []) hq hj0 (c_Form_isInfinite l A ad j0 hj0 a1) kB_Form_isInfinite wd_133 ⟨rfl, rfl, Nat.le_of_ble_eq_true rfl, Nat.le_of_ble_eq_true rfl⟩ rfl hl.1 rfl (Nat.le_of_ble_eq_true rfl) d_Floats_root_27 ⟨Nat.zero_le _, Nat.zero_le _⟩ ?_
      refine lv_if_eq (tgt := 35) hx hb d_Floats_root_30 (by decide) (fun c_3 => ?_) (fun c_3 => ?_)
      · refine lv_aload_n hx hb d_Floats_root_35 rfl (lv_at hl 0 rfl) ?_
        refine lv_lload_n hx hb d_Floats_root_36 rfl (lv_at hl 1 rfl) ?_
        refine si_ (As := [.ref (ad j0), .long a1]) (rest := []) hq (c_Floats_raisedScale l A ad j0 hj0 a1) kB_Floats_raisedScale wd_147 ⟨rfl, rfl, Nat.le_of_ble_eq_true rfl, Nat.le_of_ble_eq_true rfl⟩ rfl hl.1 rfl (Nat.le_of_ble_eq_true rfl) d_Floats_root_37 ⟨Nat.zero_le _, Nat.zero_le _⟩ ?_
        refine lv_iconst (v := (1 : Int32)) hx hb d_Floats_root_40 (by decide) ?_
        refine lv_iand hx hb d_Floats_root_41 ?_
        refine lv_istore_n (lv' := [(3, .int ((q_Floats_raisedScale j0 a1) &&& (1 : Int32))), (0, .ref (ad j0)), (1, .long a1)]) hx hb d_Floats_root_42 rfl hl (by decide) rfl (fun ls hl => ?_)
        refine lv_aload_n hx hb d_Floats_root_43 rfl (lv_at hl 1 rfl) ?_
        refine lv_lload_n hx hb d_Floats_root_44 rfl (lv_at hl 2 rfl) ?_
        refine sl_ (As := [.ref (ad j0), .long a1]) (rest := []) hq (c_Floats_raised l A ad j0 hj0 a1) kB_Floats_raised wd_144 ⟨rfl, rfl, Nat.le_of_ble_eq_true rfl, Nat.le_of_ble_eq_true rfl⟩ rfl hl.1 rfl (Nat.le_of_ble_eq_true rfl) d_Floats_root_45 ⟨Nat.zero_le _, Nat.zero_le _⟩ ?_
        refine lv_iload_n hx hb d_Floats_root_48 rfl (lv_at hl 0 rfl) ?_
        refine lv_lshl (v := (shl_ (q_Floats_raised j0 a1) ((q_Floats_raisedScale j0 a1) &&& (1 : Int32)))) hx hb d_Floats_root_49 rfl ?_
        refine lv_lstore (lv' := [(4, .long (shl_ (q_Floats_raised j0 a1) ((q_Floats_raisedScale j0 a1) &&& (1 : Int32)))), (3, .int ((q_Floats_raisedScale j0 a1) &&& (1 : Int32))), (0, .ref (ad j0)), (1, .long a1)]) hx hb d_Floats_root_50 hl (by decide) rfl (fun ls hl => ?_)
        refine lv_aload_n hx hb d_Floats_root_52 rfl (lv_at hl 2 rfl) ?_
        refine lv_lload_n hx hb d_Floats_root_53 rfl (lv_at hl 3 rfl) ?_
        refine si_ (As := [.ref (ad j0), .long a1]) (rest := []) hq (c_Floats_raisedScale l A ad j0 hj0 a1) kB_Floats_raisedScale wd_147 ⟨rfl, rfl, Nat.le_of_ble_eq_true rfl, Nat.le_of_ble_eq_true rfl⟩ rfl hl.1 rfl (Nat.le_of_ble_eq_true rfl) d_Floats_root_54 ⟨Nat.zero_le _, Nat.zero_le _⟩ ?_
        refine lv_iload_n hx hb d_Floats_root_57 rfl (lv_at hl 1 rfl) ?_
        refine lv_isub hx hb d_Floats_root_58 ?_
        refine lv_iconst (v := (1 : Int32)) hx hb d_Floats_root_59 (by decide) ?_
        refine lv_ishr hx hb d_Floats_root_60 ?_
        refine lv_istore (lv' := [(6, .int (((q_Floats_raisedScale j0 a1) - ((q_Floats_raisedScale j0 a1) &&& (1 : Int32))) >>> ((1 : Int32) &&& 31))), (4, .long (shl_ (q_Floats_raised j0 a1) ((q_Floats_raisedScale j0 a1) &&& (1 : Int32)))), (3, .int ((q_Floats_raisedScale j0 a1) &&& (1 : Int32))), (0, .ref (ad j0)), (1, .long a1)]) hx hb d_Floats_root_61 hl (by decide) rfl (fun ls hl => ?_)
        refine lv_aload_n hx hb d_Floats_root_63 rfl (lv_at hl 3 rfl) ?_
        refine lv_lconst (v := (0 : Int64)) hx hb d_Floats_root_64 (by decide) ?_
        refine lv_lload hx hb d_Floats_root_65 (lv_at hl 1 rfl) ?_
        refine sl_ (As := [.long (shl_ (q_Floats_raised j0 a1) ((q_Floats_raisedScale j0 a1) &&& (1 : Int32)))]) (rest := [.long (0 : Int64), .ref (ad j0)]) hq (c_Floats_longRoot l A ad (shl_ (q_Floats_raised j0 a1) ((q_Floats_raisedScale j0 a1) &&& (1 : Int32)))) kB_Floats_longRoot wd_209 ⟨rfl, rfl, Nat.le_of_ble_eq_true rfl, Nat.le_of_ble_eq_true rfl⟩ rfl hl.1 rfl (Nat.le_of_ble_eq_true rfl) d_Floats_root_67 ⟨Nat.zero_le _, Nat.zero_le _⟩ ?_
        refine lv_iload hx hb d_Floats_root_70 (lv_at hl 0 rfl) ?_
        refine lv_bipush (v := (24 : Int32)) hx hb d_Floats_root_72 (by decide) ?_
        refine lv_isub hx hb d_Floats_root_74 ?_
        refine vl_ (As := [.long (0 : Int64), .long (q_Floats_longRoot (shl_ (q_Floats_raised j0 a1) ((q_Floats_raisedScale j0 a1) &&& (1 : Int32)))), .int ((((q_Floats_raisedScale j0 a1) - ((q_Floats_raisedScale j0 a1) &&& (1 : Int32))) >>> ((1 : Int32) &&& 31)) - (24 : Int32))]) (rest := []) hq hj0 (c_Form_rounded l A ad j0 hj0 (0 : Int64) (q_Floats_longRoot (shl_ (q_Floats_raised j0 a1) ((q_Floats_raisedScale j0 a1) &&& (1 : Int32)))) ((((q_Floats_raisedScale j0 a1) - ((q_Floats_raisedScale j0 a1) &&& (1 : Int32))) >>> ((1 : Int32) &&& 31)) - (24 : Int32))) kB_Form_rounded wd_130 ⟨rfl, rfl, Nat.le_of_ble_eq_true rfl, Nat.le_of_ble_eq_true rfl⟩ rfl hl.1 rfl (Nat.le_of_ble_eq_true rfl) d_Floats_root_75 ⟨Nat.zero_le _, Nat.zero_le _⟩ ?_
        exact rl_ hx hb hr hk (by rw [q_Floats_root, if_pos c_1, if_pos c_2, if_pos c_3]) d_Floats_root_78
      · refine lv_lload_n hx hb d_Floats_root_33 rfl (lv_at hl 1 rfl) ?_
        exact rl_ hx hb hr hk (by rw [q_Floats_root, if_pos c_1, if_pos c_2, if_neg c_3]) d_Floats_root_34
    · rw [lg_cmp_eq] at c_2
      refine lv_aload_n hx hb d_Floats_root_20 rfl (lv_at hl 0 rfl) ?_
      refine gf_n hq hj0 wd_135 d_Floats_root_21 ?_
      exact rl_ hx hb hr hk (by rw [q_Floats_root, if_pos c_1, if_neg c_2]) d_Floats_root_24
  · refine lv_lload_n hx hb d_Floats_root_8 rfl (lv_at hl 1 rfl) ?_
    exact rl_ hx hb hr hk (by rw [q_Floats_root, if_neg c_1]) d_Floats_root_9
def q_Floats_calculate (a0 : Int32) (j1 : Nat) (a2 : Int64) (a3 : Int64) : Int64 :=
  if a0 = (139 : Int32) then
    (q_Form_withoutSign j1 a2)
  else
    if a0 = (140 : Int32) then
      (a2 ^^^ (fm_s j1))
    else
      if a0 = (152 : Int32) then
        ((q_Form_withoutSign j1 a2) ||| (q_Form_sign j1 a3))
      else
        if a0 < (146 : Int32) then
          if (q_Form_isNoNumber j1 a2) = 0 then
            if a0 = (145 : Int32) then
              (q_Floats_root j1 a2)
            else
              if a0 = (146 : Int32) then
                (q_Floats_sum j1 a2 a3)
              else
                if a0 = (147 : Int32) then
                  (q_Floats_sum j1 a2 (a3 ^^^ (fm_s j1)))
                else
                  if a0 = (148 : Int32) then
                    (q_Floats_product j1 a2 a3)
                  else
                    if a0 = (149 : Int32) then
                      (q_Floats_quotient j1 a2 a3)
                    else
                      if a0 = (150 : Int32) then
                        if (q_Floats_isBelow j1 a3 a2) = 0 then
                          a2
                        else
                          a3
                      else
                        if a0 = (151 : Int32) then
                          if (q_Floats_isBelow j1 a2 a3) = 0 then
                            a2
                          else
                            a3
                        else
                          (q_Steps_toWhole a0 j1 a2)
          else
            (fm_n j1)
        else
          if (q_Form_isNoNumber j1 a2) = 0 then
            if (q_Form_isNoNumber j1 a3) = 0 then
              if a0 = (145 : Int32) then
                (q_Floats_root j1 a2)
              else
                if a0 = (146 : Int32) then
                  (q_Floats_sum j1 a2 a3)
                else
                  if a0 = (147 : Int32) then
                    (q_Floats_sum j1 a2 (a3 ^^^ (fm_s j1)))
                  else
                    if a0 = (148 : Int32) then
                      (q_Floats_product j1 a2 a3)
                    else
                      if a0 = (149 : Int32) then
                        (q_Floats_quotient j1 a2 a3)
                      else
                        if a0 = (150 : Int32) then
                          if (q_Floats_isBelow j1 a3 a2) = 0 then
                            a2
                          else
                            a3
                        else
                          if a0 = (151 : Int32) then
                            if (q_Floats_isBelow j1 a2 a3) = 0 then
                              a2
                            else
                              a3
                          else
                            (q_Steps_toWhole a0 j1 a2)
            else
              (fm_n j1)
          else
            (fm_n j1)
theorem kB_Floats_calculate : SB y_Floats_calculate b_Floats_calculate 7 (some .long) 4 := ⟨wd_219, wd_220, wd_119, by decide +kernel⟩
set_option maxHeartbeats 4000000 in
set_option maxRecDepth 100000 in
theorem c_Floats_calculate (l : Launch) (A : Nat → Prop) (ad : Nat → Nat) (a0 : Int32) (j1 : Nat) (hj1 : j1 < 2) (a2 : Int64) (a3 : Int64) : Met l y_Floats_calculate (Cond.code y_Floats_calculate b_Floats_calculate 7 (some .long) :: BT) ({ frames := 5, cells := 0, slots := 0, locals := 134 }) (PC A ad [.int a0, .ref (ad j1), .long a2, .long a3]) (vp_Sl (fun r => r = q_Floats_calculate a0 j1 a2 a3)) 0 0 (fun _ => False) := by
  refine pm_ (by decide +kernel) (Nat.le_of_ble_eq_true rfl) ?_
  intro p e s m below meth c hq hr hk ls hl
  have hx := hq.1
  have hb := hq.2.1
  have hts := hq.2.2.2.2.1
  have hl : lv_has ls 7 [(0, .int a0), (1, .ref (ad j1)), (2, .long a2), (4, .long a3)] := hl
  refine lv_iload_n hx hb d_Floats_calculate_0 rfl (lv_at hl 0 rfl) ?_
  by_cases c_1 : a0 = (139 : Int32)
  · refine lv_lookup (off := (35 : Int)) (tgt := 36) hx hb d_Floats_calculate_1 (by decide) (by rw [c_1] <;> rfl) (by decide) ?_
    refine lv_aload_n hx hb d_Floats_calculate_36 rfl (lv_at hl 1 rfl) ?_
    refine lv_lload_n hx hb d_Floats_calculate_37 rfl (lv_at hl 2 rfl) ?_
    refine vl_ (As := [.long a2]) (rest := []) hq hj1 (c_Form_withoutSign l A ad j1 hj1 a2) kB_Form_withoutSign wd_116 ⟨rfl, rfl, Nat.le_of_ble_eq_true rfl, Nat.le_of_ble_eq_true rfl⟩ rfl hl.1 rfl (Nat.le_of_ble_eq_true rfl) d_Floats_calculate_38 ⟨Nat.zero_le _, Nat.zero_le _⟩ ?_
    exact rl_ hx hb hr hk (by rw [q_Floats_calculate, if_pos c_1]) d_Floats_calculate_41
  by_cases c_2 : a0 = (140 : Int32)
  · refine lv_lookup (off := (41 : Int)) (tgt := 42) hx hb d_Floats_calculate_1 (by decide) (by rw [c_2] <;> rfl) (by decide) ?_
    refine lv_lload_n hx hb d_Floats_calculate_42 rfl (lv_at hl 2 rfl) ?_
    refine lv_aload_n hx hb d_Floats_calculate_43 rfl (lv_at hl 1 rfl) ?_
    refine gf_s hq hj1 wd_212 d_Floats_calculate_44 ?_
    refine lv_lxor hx hb d_Floats_calculate_47 ?_
    exact rl_ hx hb hr hk (by rw [q_Floats_calculate, if_neg c_1, if_pos c_2]) d_Floats_calculate_48
  by_cases c_3 : a0 = (152 : Int32)
  · refine lv_lookup (off := (48 : Int)) (tgt := 49) hx hb d_Floats_calculate_1 (by decide) (by rw [c_3] <;> rfl) (by decide) ?_
    refine lv_aload_n hx hb d_Floats_calculate_49 rfl (lv_at hl 1 rfl) ?_
    refine lv_lload_n hx hb d_Floats_calculate_50 rfl (lv_at hl 2 rfl) ?_
    refine vl_ (As := [.long a2]) (rest := []) hq hj1 (c_Form_withoutSign l A ad j1 hj1 a2) kB_Form_withoutSign wd_116 ⟨rfl, rfl, Nat.le_of_ble_eq_true rfl, Nat.le_of_ble_eq_true rfl⟩ rfl hl.1 rfl (Nat.le_of_ble_eq_true rfl) d_Floats_calculate_51 ⟨Nat.zero_le _, Nat.zero_le _⟩ ?_
    refine lv_aload_n hx hb d_Floats_calculate_54 rfl (lv_at hl 1 rfl) ?_
    refine lv_lload hx hb d_Floats_calculate_55 (lv_at hl 3 rfl) ?_
    refine vl_ (As := [.long a3]) (rest := [.long (q_Form_withoutSign j1 a2)]) hq hj1 (c_Form_sign l A ad j1 hj1 a3) kB_Form_sign wd_115 ⟨rfl, rfl, Nat.le_of_ble_eq_true rfl, Nat.le_of_ble_eq_true rfl⟩ rfl hl.1 rfl (Nat.le_of_ble_eq_true rfl) d_Floats_calculate_57 ⟨Nat.zero_le _, Nat.zero_le _⟩ ?_
    refine lv_lor hx hb d_Floats_calculate_60 ?_
    exact rl_ hx hb hr hk (by rw [q_Floats_calculate, if_neg c_1, if_neg c_2, if_pos c_3]) d_Floats_calculate_61
  refine lv_lookup (off := (61 : Int)) (tgt := 62) hx hb d_Floats_calculate_1 (by decide) ((lv_osw c_1 (by decide)).trans <| (lv_osw c_2 (by decide)).trans <| (lv_osw c_3 (by decide)).trans <| rfl) (by decide) ?_
  refine lv_iload_n hx hb d_Floats_calculate_62 rfl (lv_at hl 0 rfl) ?_
  refine lv_sipush (v := (146 : Int32)) hx hb d_Floats_calculate_63 (by decide) ?_
  refine lv_icmp_lt (tgt := 73) hx hb d_Floats_calculate_66 (by decide) (fun c_4 => ?_) (fun c_4 => ?_)
  · refine lv_iconst (v := (0 : Int32)) hx hb d_Floats_calculate_73 (by decide) ?_
    refine lv_istore (lv' := [(6, .int (0 : Int32)), (0, .int a0), (1, .ref (ad j1)), (2, .long a2), (4, .long a3)]) hx hb d_Floats_calculate_74 hl (by decide) rfl (fun ls hl => ?_)
    refine lv_aload_n hx hb d_Floats_calculate_76 rfl (lv_at hl 2 rfl) ?_
    refine lv_lload_n hx hb d_Floats_calculate_77 rfl (lv_at hl 3 rfl) ?_
    refine vi_ (As := [.long a2]) (rest := []) hq hj1 (c_Form_isNoNumber l A ad j1 hj1 a2) kB_Form_isNoNumber wd_120 ⟨rfl, rfl, Nat.le_of_ble_eq_true rfl, Nat.le_of_ble_eq_true rfl⟩ rfl hl.1 rfl (Nat.le_of_ble_eq_true rfl) d_Floats_calculate_78 ⟨Nat.zero_le _, Nat.zero_le _⟩ ?_
    refine lv_if_ne (tgt := 98) hx hb d_Floats_calculate_81 (by decide) (fun c_5 => ?_) (fun c_5 => ?_)
    · refine lv_aload_n hx hb d_Floats_calculate_98 rfl (lv_at hl 2 rfl) ?_
      refine gf_n hq hj1 wd_135 d_Floats_calculate_99 ?_
      exact rl_ hx hb hr hk (by rw [q_Floats_calculate, if_neg c_1, if_neg c_2, if_neg c_3, if_pos c_4, if_neg c_5]) d_Floats_calculate_102
    · refine lv_iload hx hb d_Floats_calculate_84 (lv_at hl 0 rfl) ?_
      refine lv_if_eq (tgt := 103) hx hb d_Floats_calculate_86 (by decide) (fun _ => ?_) (fun c => absurd (by decide) c)
      refine lv_iload_n hx hb d_Floats_calculate_103 rfl (lv_at hl 1 rfl) ?_
      by_cases c_6 : a0 = (145 : Int32)
      · refine lv_tableIn (tgt := 148) hx hb d_Floats_calculate_104 (by rw [c_6]; decide) (by rw [c_6]; decide) (by rw [c_6]; rfl) (by decide) ?_
        refine lv_aload_n hx hb d_Floats_calculate_148 rfl (lv_at hl 2 rfl) ?_
        refine lv_lload_n hx hb d_Floats_calculate_149 rfl (lv_at hl 3 rfl) ?_
        refine sl_ (As := [.ref (ad j1), .long a2]) (rest := []) hq (c_Floats_root l A ad j1 hj1 a2) kB_Floats_root wd_213 ⟨rfl, rfl, Nat.le_of_ble_eq_true rfl, Nat.le_of_ble_eq_true rfl⟩ rfl hl.1 rfl (Nat.le_of_ble_eq_true rfl) d_Floats_calculate_150 ⟨Nat.zero_le _, Nat.zero_le _⟩ ?_
        exact rl_ hx hb hr hk (by rw [q_Floats_calculate, if_neg c_1, if_neg c_2, if_neg c_3, if_pos c_4, if_pos c_5, if_pos c_6]) d_Floats_calculate_153
      by_cases c_7 : a0 = (146 : Int32)
      · refine lv_tableIn (tgt := 154) hx hb d_Floats_calculate_104 (by rw [c_7]; decide) (by rw [c_7]; decide) (by rw [c_7]; rfl) (by decide) ?_
        refine lv_aload_n hx hb d_Floats_calculate_154 rfl (lv_at hl 2 rfl) ?_
        refine lv_lload_n hx hb d_Floats_calculate_155 rfl (lv_at hl 3 rfl) ?_
        refine lv_lload hx hb d_Floats_calculate_156 (lv_at hl 4 rfl) ?_
        refine sl_ (As := [.ref (ad j1), .long a2, .long a3]) (rest := []) hq (c_Floats_sum l A ad j1 hj1 a2 a3) kB_Floats_sum wd_214 ⟨rfl, rfl, Nat.le_of_ble_eq_true rfl, Nat.le_of_ble_eq_true rfl⟩ rfl hl.1 rfl (Nat.le_of_ble_eq_true rfl) d_Floats_calculate_158 ⟨Nat.zero_le _, Nat.zero_le _⟩ ?_
        exact rl_ hx hb hr hk (by rw [q_Floats_calculate, if_neg c_1, if_neg c_2, if_neg c_3, if_pos c_4, if_pos c_5, if_neg c_6, if_pos c_7]) d_Floats_calculate_161
      by_cases c_8 : a0 = (147 : Int32)
      · refine lv_tableIn (tgt := 162) hx hb d_Floats_calculate_104 (by rw [c_8]; decide) (by rw [c_8]; decide) (by rw [c_8]; rfl) (by decide) ?_
        refine lv_aload_n hx hb d_Floats_calculate_162 rfl (lv_at hl 2 rfl) ?_
        refine lv_lload_n hx hb d_Floats_calculate_163 rfl (lv_at hl 3 rfl) ?_
        refine lv_lload hx hb d_Floats_calculate_164 (lv_at hl 4 rfl) ?_
        refine lv_aload_n hx hb d_Floats_calculate_166 rfl (lv_at hl 2 rfl) ?_
        refine gf_s hq hj1 wd_212 d_Floats_calculate_167 ?_
        refine lv_lxor hx hb d_Floats_calculate_170 ?_
        refine sl_ (As := [.ref (ad j1), .long a2, .long (a3 ^^^ (fm_s j1))]) (rest := []) hq (c_Floats_sum l A ad j1 hj1 a2 (a3 ^^^ (fm_s j1))) kB_Floats_sum wd_214 ⟨rfl, rfl, Nat.le_of_ble_eq_true rfl, Nat.le_of_ble_eq_true rfl⟩ rfl hl.1 rfl (Nat.le_of_ble_eq_true rfl) d_Floats_calculate_171 ⟨Nat.zero_le _, Nat.zero_le _⟩ ?_
        exact rl_ hx hb hr hk (by rw [q_Floats_calculate, if_neg c_1, if_neg c_2, if_neg c_3, if_pos c_4, if_pos c_5, if_neg c_6, if_neg c_7, if_pos c_8]) d_Floats_calculate_174
      by_cases c_9 : a0 = (148 : Int32)
      · refine lv_tableIn (tgt := 175) hx hb d_Floats_calculate_104 (by rw [c_9]; decide) (by rw [c_9]; decide) (by rw [c_9]; rfl) (by decide) ?_
        refine lv_aload_n hx hb d_Floats_calculate_175 rfl (lv_at hl 2 rfl) ?_
        refine lv_lload_n hx hb d_Floats_calculate_176 rfl (lv_at hl 3 rfl) ?_
        refine lv_lload hx hb d_Floats_calculate_177 (lv_at hl 4 rfl) ?_
        refine sl_ (As := [.ref (ad j1), .long a2, .long a3]) (rest := []) hq (c_Floats_product l A ad j1 hj1 a2 a3) kB_Floats_product wd_215 ⟨rfl, rfl, Nat.le_of_ble_eq_true rfl, Nat.le_of_ble_eq_true rfl⟩ rfl hl.1 rfl (Nat.le_of_ble_eq_true rfl) d_Floats_calculate_179 ⟨Nat.zero_le _, Nat.zero_le _⟩ ?_
        exact rl_ hx hb hr hk (by rw [q_Floats_calculate, if_neg c_1, if_neg c_2, if_neg c_3, if_pos c_4, if_pos c_5, if_neg c_6, if_neg c_7, if_neg c_8, if_pos c_9]) d_Floats_calculate_182
      by_cases c_10 : a0 = (149 : Int32)
      · refine lv_tableIn (tgt := 183) hx hb d_Floats_calculate_104 (by rw [c_10]; decide) (by rw [c_10]; decide) (by rw [c_10]; rfl) (by decide) ?_
        refine lv_aload_n hx hb d_Floats_calculate_183 rfl (lv_at hl 2 rfl) ?_
        refine lv_lload_n hx hb d_Floats_calculate_184 rfl (lv_at hl 3 rfl) ?_
        refine lv_lload hx hb d_Floats_calculate_185 (lv_at hl 4 rfl) ?_
        refine sl_ (As := [.ref (ad j1), .long a2, .long a3]) (rest := []) hq (c_Floats_quotient l A ad j1 hj1 a2 a3) kB_Floats_quotient wd_216 ⟨rfl, rfl, Nat.le_of_ble_eq_true rfl, Nat.le_of_ble_eq_true rfl⟩ rfl hl.1 rfl (Nat.le_of_ble_eq_true rfl) d_Floats_calculate_187 ⟨Nat.zero_le _, Nat.zero_le _⟩ ?_
        exact rl_ hx hb hr hk (by rw [q_Floats_calculate, if_neg c_1, if_neg c_2, if_neg c_3, if_pos c_4, if_pos c_5, if_neg c_6, if_neg c_7, if_neg c_8, if_neg c_9, if_pos c_10]) d_Floats_calculate_190
      by_cases c_11 : a0 = (150 : Int32)
      · refine lv_tableIn (tgt := 191) hx hb d_Floats_calculate_104 (by rw [c_11]; decide) (by rw [c_11]; decide) (by rw [c_11]; rfl) (by decide) ?_
        refine lv_aload_n hx hb d_Floats_calculate_191 rfl (lv_at hl 2 rfl) ?_
        refine lv_lload hx hb d_Floats_calculate_192 (lv_at hl 4 rfl) ?_
        refine lv_lload_n hx hb d_Floats_calculate_194 rfl (lv_at hl 3 rfl) ?_
        refine si_ (As := [.ref (ad j1), .long a3, .long a2]) (rest := []) hq (c_Floats_isBelow l A ad j1 hj1 a3 a2) kB_Floats_isBelow wd_217 ⟨rfl, rfl, Nat.le_of_ble_eq_true rfl, Nat.le_of_ble_eq_true rfl⟩ rfl hl.1 rfl (Nat.le_of_ble_eq_true rfl) d_Floats_calculate_195 ⟨Nat.zero_le _, Nat.zero_le _⟩ ?_
        refine lv_if_eq (tgt := 206) hx hb d_Floats_calculate_198 (by decide) (fun c_12 => ?_) (fun c_12 => ?_)
        · refine lv_lload_n hx hb d_Floats_calculate_206 rfl (lv_at hl 3 rfl) ?_
          exact rl_ hx hb hr hk (by rw [q_Floats_calculate, if_neg c_1, if_neg c_2, if_neg c_3, if_pos c_4, if_pos c_5, if_neg c_6, if_neg c_7, if_neg c_8, if_neg c_9, if_neg c_10, if_pos c_11, if_pos c_12]) d_Floats_calculate_207
        · refine lv_lload hx hb d_Floats_calculate_201 (lv_at hl 4 rfl) ?_
          refine lv_goto (tgt := 207) hx hb d_Floats_calculate_203 (by decide) ?_
          exact rl_ hx hb hr hk (by rw [q_Floats_calculate, if_neg c_1, if_neg c_2, if_neg c_3, if_pos c_4, if_pos c_5, if_neg c_6, if_neg c_7, if_neg c_8, if_neg c_9, if_neg c_10, if_pos c_11, if_neg c_12]) d_Floats_calculate_207
      by_cases c_13 : a0 = (151 : Int32)
      · refine lv_tableIn (tgt := 208) hx hb d_Floats_calculate_104 (by rw [c_13]; decide) (by rw [c_13]; decide) (by rw [c_13]; rfl) (by decide) ?_
        refine lv_aload_n hx hb d_Floats_calculate_208 rfl (lv_at hl 2 rfl) ?_
        refine lv_lload_n hx hb d_Floats_calculate_209 rfl (lv_at hl 3 rfl) ?_
        refine lv_lload hx hb d_Floats_calculate_210 (lv_at hl 4 rfl) ?_
        refine si_ (As := [.ref (ad j1), .long a2, .long a3]) (rest := []) hq (c_Floats_isBelow l A ad j1 hj1 a2 a3) kB_Floats_isBelow wd_217 ⟨rfl, rfl, Nat.le_of_ble_eq_true rfl, Nat.le_of_ble_eq_true rfl⟩ rfl hl.1 rfl (Nat.le_of_ble_eq_true rfl) d_Floats_calculate_212 ⟨Nat.zero_le _, Nat.zero_le _⟩ ?_
        refine lv_if_eq (tgt := 223) hx hb d_Floats_calculate_215 (by decide) (fun c_14 => ?_) (fun c_14 => ?_)
        · refine lv_lload_n hx hb d_Floats_calculate_223 rfl (lv_at hl 3 rfl) ?_
          exact rl_ hx hb hr hk (by rw [q_Floats_calculate, if_neg c_1, if_neg c_2, if_neg c_3, if_pos c_4, if_pos c_5, if_neg c_6, if_neg c_7, if_neg c_8, if_neg c_9, if_neg c_10, if_neg c_11, if_pos c_13, if_pos c_14]) d_Floats_calculate_224
        · refine lv_lload hx hb d_Floats_calculate_218 (lv_at hl 4 rfl) ?_
          refine lv_goto (tgt := 224) hx hb d_Floats_calculate_220 (by decide) ?_
          exact rl_ hx hb hr hk (by rw [q_Floats_calculate, if_neg c_1, if_neg c_2, if_neg c_3, if_pos c_4, if_pos c_5, if_neg c_6, if_neg c_7, if_neg c_8, if_neg c_9, if_neg c_10, if_neg c_11, if_pos c_13, if_neg c_14]) d_Floats_calculate_224
      have hsw : a0.toInt < 145 ∨ 151 < a0.toInt := by
        have := lv_neT c_6 (a := 145) (by decide)
        have := lv_neT c_7 (a := 146) (by decide)
        have := lv_neT c_8 (a := 147) (by decide)
        have := lv_neT c_9 (a := 148) (by decide)
        have := lv_neT c_10 (a := 149) (by decide)
        have := lv_neT c_11 (a := 150) (by decide)
        have := lv_neT c_13 (a := 151) (by decide)
        omega
      refine lv_tableOut (tgt := 225) hx hb d_Floats_calculate_104 hsw (by decide) ?_
      refine lv_iload_n hx hb d_Floats_calculate_225 rfl (lv_at hl 1 rfl) ?_
      refine lv_aload_n hx hb d_Floats_calculate_226 rfl (lv_at hl 2 rfl) ?_
      refine lv_lload_n hx hb d_Floats_calculate_227 rfl (lv_at hl 3 rfl) ?_
      refine sl_ (As := [.int a0, .ref (ad j1), .long a2]) (rest := []) hq (c_Steps_toWhole l A ad a0 j1 hj1 a2) kB_Steps_toWhole wd_218 ⟨rfl, rfl, Nat.le_of_ble_eq_true rfl, Nat.le_of_ble_eq_true rfl⟩ rfl hl.1 rfl (Nat.le_of_ble_eq_true rfl) d_Floats_calculate_228 ⟨Nat.zero_le _, Nat.zero_le _⟩ ?_
      exact rl_ hx hb hr hk (by rw [q_Floats_calculate, if_neg c_1, if_neg c_2, if_neg c_3, if_pos c_4, if_pos c_5, if_neg c_6, if_neg c_7, if_neg c_8, if_neg c_9, if_neg c_10, if_neg c_11, if_neg c_13]) d_Floats_calculate_231
  · refine lv_iconst (v := (1 : Int32)) hx hb d_Floats_calculate_69 (by decide) ?_
    refine lv_goto (tgt := 74) hx hb d_Floats_calculate_70 (by decide) ?_
    refine lv_istore (lv' := [(6, .int (1 : Int32)), (0, .int a0), (1, .ref (ad j1)), (2, .long a2), (4, .long a3)]) hx hb d_Floats_calculate_74 hl (by decide) rfl (fun ls hl => ?_)
    refine lv_aload_n hx hb d_Floats_calculate_76 rfl (lv_at hl 2 rfl) ?_
    refine lv_lload_n hx hb d_Floats_calculate_77 rfl (lv_at hl 3 rfl) ?_
    refine vi_ (As := [.long a2]) (rest := []) hq hj1 (c_Form_isNoNumber l A ad j1 hj1 a2) kB_Form_isNoNumber wd_120 ⟨rfl, rfl, Nat.le_of_ble_eq_true rfl, Nat.le_of_ble_eq_true rfl⟩ rfl hl.1 rfl (Nat.le_of_ble_eq_true rfl) d_Floats_calculate_78 ⟨Nat.zero_le _, Nat.zero_le _⟩ ?_
    refine lv_if_ne (tgt := 98) hx hb d_Floats_calculate_81 (by decide) (fun c_15 => ?_) (fun c_15 => ?_)
    · refine lv_aload_n hx hb d_Floats_calculate_98 rfl (lv_at hl 2 rfl) ?_
      refine gf_n hq hj1 wd_135 d_Floats_calculate_99 ?_
      exact rl_ hx hb hr hk (by rw [q_Floats_calculate, if_neg c_1, if_neg c_2, if_neg c_3, if_neg c_4, if_neg c_15]) d_Floats_calculate_102
    · refine lv_iload hx hb d_Floats_calculate_84 (lv_at hl 0 rfl) ?_
      refine lv_if_eq (tgt := 103) hx hb d_Floats_calculate_86 (by decide) (fun c => absurd c (by decide)) (fun _ => ?_)
      refine lv_aload_n hx hb d_Floats_calculate_89 rfl (lv_at hl 2 rfl) ?_
      refine lv_lload hx hb d_Floats_calculate_90 (lv_at hl 4 rfl) ?_
      refine vi_ (As := [.long a3]) (rest := []) hq hj1 (c_Form_isNoNumber l A ad j1 hj1 a3) kB_Form_isNoNumber wd_120 ⟨rfl, rfl, Nat.le_of_ble_eq_true rfl, Nat.le_of_ble_eq_true rfl⟩ rfl hl.1 rfl (Nat.le_of_ble_eq_true rfl) d_Floats_calculate_92 ⟨Nat.zero_le _, Nat.zero_le _⟩ ?_
      refine lv_if_eq (tgt := 103) hx hb d_Floats_calculate_95 (by decide) (fun c_16 => ?_) (fun c_16 => ?_)
      · refine lv_iload_n hx hb d_Floats_calculate_103 rfl (lv_at hl 1 rfl) ?_
        by_cases c_17 : a0 = (145 : Int32)
        · refine lv_tableIn (tgt := 148) hx hb d_Floats_calculate_104 (by rw [c_17]; decide) (by rw [c_17]; decide) (by rw [c_17]; rfl) (by decide) ?_
          refine lv_aload_n hx hb d_Floats_calculate_148 rfl (lv_at hl 2 rfl) ?_
          refine lv_lload_n hx hb d_Floats_calculate_149 rfl (lv_at hl 3 rfl) ?_
          refine sl_ (As := [.ref (ad j1), .long a2]) (rest := []) hq (c_Floats_root l A ad j1 hj1 a2) kB_Floats_root wd_213 ⟨rfl, rfl, Nat.le_of_ble_eq_true rfl, Nat.le_of_ble_eq_true rfl⟩ rfl hl.1 rfl (Nat.le_of_ble_eq_true rfl) d_Floats_calculate_150 ⟨Nat.zero_le _, Nat.zero_le _⟩ ?_
          exact rl_ hx hb hr hk (by rw [q_Floats_calculate, if_neg c_1, if_neg c_2, if_neg c_3, if_neg c_4, if_pos c_15, if_pos c_16, if_pos c_17]) d_Floats_calculate_153
        by_cases c_18 : a0 = (146 : Int32)
        · refine lv_tableIn (tgt := 154) hx hb d_Floats_calculate_104 (by rw [c_18]; decide) (by rw [c_18]; decide) (by rw [c_18]; rfl) (by decide) ?_
          refine lv_aload_n hx hb d_Floats_calculate_154 rfl (lv_at hl 2 rfl) ?_
          refine lv_lload_n hx hb d_Floats_calculate_155 rfl (lv_at hl 3 rfl) ?_
          refine lv_lload hx hb d_Floats_calculate_156 (lv_at hl 4 rfl) ?_
          refine sl_ (As := [.ref (ad j1), .long a2, .long a3]) (rest := []) hq (c_Floats_sum l A ad j1 hj1 a2 a3) kB_Floats_sum wd_214 ⟨rfl, rfl, Nat.le_of_ble_eq_true rfl, Nat.le_of_ble_eq_true rfl⟩ rfl hl.1 rfl (Nat.le_of_ble_eq_true rfl) d_Floats_calculate_158 ⟨Nat.zero_le _, Nat.zero_le _⟩ ?_
          exact rl_ hx hb hr hk (by rw [q_Floats_calculate, if_neg c_1, if_neg c_2, if_neg c_3, if_neg c_4, if_pos c_15, if_pos c_16, if_neg c_17, if_pos c_18]) d_Floats_calculate_161
        by_cases c_19 : a0 = (147 : Int32)
        · refine lv_tableIn (tgt := 162) hx hb d_Floats_calculate_104 (by rw [c_19]; decide) (by rw [c_19]; decide) (by rw [c_19]; rfl) (by decide) ?_
          refine lv_aload_n hx hb d_Floats_calculate_162 rfl (lv_at hl 2 rfl) ?_
          refine lv_lload_n hx hb d_Floats_calculate_163 rfl (lv_at hl 3 rfl) ?_
          refine lv_lload hx hb d_Floats_calculate_164 (lv_at hl 4 rfl) ?_
          refine lv_aload_n hx hb d_Floats_calculate_166 rfl (lv_at hl 2 rfl) ?_
          refine gf_s hq hj1 wd_212 d_Floats_calculate_167 ?_
          refine lv_lxor hx hb d_Floats_calculate_170 ?_
          refine sl_ (As := [.ref (ad j1), .long a2, .long (a3 ^^^ (fm_s j1))]) (rest := []) hq (c_Floats_sum l A ad j1 hj1 a2 (a3 ^^^ (fm_s j1))) kB_Floats_sum wd_214 ⟨rfl, rfl, Nat.le_of_ble_eq_true rfl, Nat.le_of_ble_eq_true rfl⟩ rfl hl.1 rfl (Nat.le_of_ble_eq_true rfl) d_Floats_calculate_171 ⟨Nat.zero_le _, Nat.zero_le _⟩ ?_
          exact rl_ hx hb hr hk (by rw [q_Floats_calculate, if_neg c_1, if_neg c_2, if_neg c_3, if_neg c_4, if_pos c_15, if_pos c_16, if_neg c_17, if_neg c_18, if_pos c_19]) d_Floats_calculate_174
        by_cases c_20 : a0 = (148 : Int32)
        · refine lv_tableIn (tgt := 175) hx hb d_Floats_calculate_104 (by rw [c_20]; decide) (by rw [c_20]; decide) (by rw [c_20]; rfl) (by decide) ?_
          refine lv_aload_n hx hb d_Floats_calculate_175 rfl (lv_at hl 2 rfl) ?_
          refine lv_lload_n hx hb d_Floats_calculate_176 rfl (lv_at hl 3 rfl) ?_
          refine lv_lload hx hb d_Floats_calculate_177 (lv_at hl 4 rfl) ?_
          refine sl_ (As := [.ref (ad j1), .long a2, .long a3]) (rest := []) hq (c_Floats_product l A ad j1 hj1 a2 a3) kB_Floats_product wd_215 ⟨rfl, rfl, Nat.le_of_ble_eq_true rfl, Nat.le_of_ble_eq_true rfl⟩ rfl hl.1 rfl (Nat.le_of_ble_eq_true rfl) d_Floats_calculate_179 ⟨Nat.zero_le _, Nat.zero_le _⟩ ?_
          exact rl_ hx hb hr hk (by rw [q_Floats_calculate, if_neg c_1, if_neg c_2, if_neg c_3, if_neg c_4, if_pos c_15, if_pos c_16, if_neg c_17, if_neg c_18, if_neg c_19, if_pos c_20]) d_Floats_calculate_182
        by_cases c_21 : a0 = (149 : Int32)
        · refine lv_tableIn (tgt := 183) hx hb d_Floats_calculate_104 (by rw [c_21]; decide) (by rw [c_21]; decide) (by rw [c_21]; rfl) (by decide) ?_
          refine lv_aload_n hx hb d_Floats_calculate_183 rfl (lv_at hl 2 rfl) ?_
          refine lv_lload_n hx hb d_Floats_calculate_184 rfl (lv_at hl 3 rfl) ?_
          refine lv_lload hx hb d_Floats_calculate_185 (lv_at hl 4 rfl) ?_
          refine sl_ (As := [.ref (ad j1), .long a2, .long a3]) (rest := []) hq (c_Floats_quotient l A ad j1 hj1 a2 a3) kB_Floats_quotient wd_216 ⟨rfl, rfl, Nat.le_of_ble_eq_true rfl, Nat.le_of_ble_eq_true rfl⟩ rfl hl.1 rfl (Nat.le_of_ble_eq_true rfl) d_Floats_calculate_187 ⟨Nat.zero_le _, Nat.zero_le _⟩ ?_
          exact rl_ hx hb hr hk (by rw [q_Floats_calculate, if_neg c_1, if_neg c_2, if_neg c_3, if_neg c_4, if_pos c_15, if_pos c_16, if_neg c_17, if_neg c_18, if_neg c_19, if_neg c_20, if_pos c_21]) d_Floats_calculate_190
        by_cases c_22 : a0 = (150 : Int32)
        · refine lv_tableIn (tgt := 191) hx hb d_Floats_calculate_104 (by rw [c_22]; decide) (by rw [c_22]; decide) (by rw [c_22]; rfl) (by decide) ?_
          refine lv_aload_n hx hb d_Floats_calculate_191 rfl (lv_at hl 2 rfl) ?_
          refine lv_lload hx hb d_Floats_calculate_192 (lv_at hl 4 rfl) ?_
          refine lv_lload_n hx hb d_Floats_calculate_194 rfl (lv_at hl 3 rfl) ?_
          refine si_ (As := [.ref (ad j1), .long a3, .long a2]) (rest := []) hq (c_Floats_isBelow l A ad j1 hj1 a3 a2) kB_Floats_isBelow wd_217 ⟨rfl, rfl, Nat.le_of_ble_eq_true rfl, Nat.le_of_ble_eq_true rfl⟩ rfl hl.1 rfl (Nat.le_of_ble_eq_true rfl) d_Floats_calculate_195 ⟨Nat.zero_le _, Nat.zero_le _⟩ ?_
          refine lv_if_eq (tgt := 206) hx hb d_Floats_calculate_198 (by decide) (fun c_23 => ?_) (fun c_23 => ?_)
          · refine lv_lload_n hx hb d_Floats_calculate_206 rfl (lv_at hl 3 rfl) ?_
            exact rl_ hx hb hr hk (by rw [q_Floats_calculate, if_neg c_1, if_neg c_2, if_neg c_3, if_neg c_4, if_pos c_15, if_pos c_16, if_neg c_17, if_neg c_18, if_neg c_19, if_neg c_20, if_neg c_21, if_pos c_22, if_pos c_23]) d_Floats_calculate_207
          · refine lv_lload hx hb d_Floats_calculate_201 (lv_at hl 4 rfl) ?_
            refine lv_goto (tgt := 207) hx hb d_Floats_calculate_203 (by decide) ?_
            exact rl_ hx hb hr hk (by rw [q_Floats_calculate, if_neg c_1, if_neg c_2, if_neg c_3, if_neg c_4, if_pos c_15, if_pos c_16, if_neg c_17, if_neg c_18, if_neg c_19, if_neg c_20, if_neg c_21, if_pos c_22, if_neg c_23]) d_Floats_calculate_207
        by_cases c_24 : a0 = (151 : Int32)
        · refine lv_tableIn (tgt := 208) hx hb d_Floats_calculate_104 (by rw [c_24]; decide) (by rw [c_24]; decide) (by rw [c_24]; rfl) (by decide) ?_
          refine lv_aload_n hx hb d_Floats_calculate_208 rfl (lv_at hl 2 rfl) ?_
          refine lv_lload_n hx hb d_Floats_calculate_209 rfl (lv_at hl 3 rfl) ?_
          refine lv_lload hx hb d_Floats_calculate_210 (lv_at hl 4 rfl) ?_
          refine si_ (As := [.ref (ad j1), .long a2, .long a3]) (rest := []) hq (c_Floats_isBelow l A ad j1 hj1 a2 a3) kB_Floats_isBelow wd_217 ⟨rfl, rfl, Nat.le_of_ble_eq_true rfl, Nat.le_of_ble_eq_true rfl⟩ rfl hl.1 rfl (Nat.le_of_ble_eq_true rfl) d_Floats_calculate_212 ⟨Nat.zero_le _, Nat.zero_le _⟩ ?_
          refine lv_if_eq (tgt := 223) hx hb d_Floats_calculate_215 (by decide) (fun c_25 => ?_) (fun c_25 => ?_)
          · refine lv_lload_n hx hb d_Floats_calculate_223 rfl (lv_at hl 3 rfl) ?_
            exact rl_ hx hb hr hk (by rw [q_Floats_calculate, if_neg c_1, if_neg c_2, if_neg c_3, if_neg c_4, if_pos c_15, if_pos c_16, if_neg c_17, if_neg c_18, if_neg c_19, if_neg c_20, if_neg c_21, if_neg c_22, if_pos c_24, if_pos c_25]) d_Floats_calculate_224
          · refine lv_lload hx hb d_Floats_calculate_218 (lv_at hl 4 rfl) ?_
            refine lv_goto (tgt := 224) hx hb d_Floats_calculate_220 (by decide) ?_
            exact rl_ hx hb hr hk (by rw [q_Floats_calculate, if_neg c_1, if_neg c_2, if_neg c_3, if_neg c_4, if_pos c_15, if_pos c_16, if_neg c_17, if_neg c_18, if_neg c_19, if_neg c_20, if_neg c_21, if_neg c_22, if_pos c_24, if_neg c_25]) d_Floats_calculate_224
        have hsw : a0.toInt < 145 ∨ 151 < a0.toInt := by
          have := lv_neT c_17 (a := 145) (by decide)
          have := lv_neT c_18 (a := 146) (by decide)
          have := lv_neT c_19 (a := 147) (by decide)
          have := lv_neT c_20 (a := 148) (by decide)
          have := lv_neT c_21 (a := 149) (by decide)
          have := lv_neT c_22 (a := 150) (by decide)
          have := lv_neT c_24 (a := 151) (by decide)
          omega
        refine lv_tableOut (tgt := 225) hx hb d_Floats_calculate_104 hsw (by decide) ?_
        refine lv_iload_n hx hb d_Floats_calculate_225 rfl (lv_at hl 1 rfl) ?_
        refine lv_aload_n hx hb d_Floats_calculate_226 rfl (lv_at hl 2 rfl) ?_
        refine lv_lload_n hx hb d_Floats_calculate_227 rfl (lv_at hl 3 rfl) ?_
        refine sl_ (As := [.int a0, .ref (ad j1), .long a2]) (rest := []) hq (c_Steps_toWhole l A ad a0 j1 hj1 a2) kB_Steps_toWhole wd_218 ⟨rfl, rfl, Nat.le_of_ble_eq_true rfl, Nat.le_of_ble_eq_true rfl⟩ rfl hl.1 rfl (Nat.le_of_ble_eq_true rfl) d_Floats_calculate_228 ⟨Nat.zero_le _, Nat.zero_le _⟩ ?_
        exact rl_ hx hb hr hk (by rw [q_Floats_calculate, if_neg c_1, if_neg c_2, if_neg c_3, if_neg c_4, if_pos c_15, if_pos c_16, if_neg c_17, if_neg c_18, if_neg c_19, if_neg c_20, if_neg c_21, if_neg c_22, if_neg c_24]) d_Floats_calculate_231
      · refine lv_aload_n hx hb d_Floats_calculate_98 rfl (lv_at hl 2 rfl) ?_
        refine gf_n hq hj1 wd_135 d_Floats_calculate_99 ?_
        exact rl_ hx hb hr hk (by rw [q_Floats_calculate, if_neg c_1, if_neg c_2, if_neg c_3, if_neg c_4, if_pos c_15, if_neg c_16]) d_Floats_calculate_102
end
