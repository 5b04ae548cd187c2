/-! the reference's state between calls; adding a long -/
def SJ (r : Nat) (cd : Int32) (la : Int64) (fs : List Value) (f : Nat → Int32) : Prop :=
  ∃ (lo hi re wi fr bi mi : Int32) (am : Int64) (we : Int32) (N : Nat), fs = rf_ cd la r lo hi re wi fr bi mi am we ∧ (re = 0 ∨ re = 1) ∧ RowIs f N ∧ RI lo hi N
theorem ri_0 : RI (nI 4400) 0 0 := ⟨4400, 0, rfl, rfl, by decide, by decide, Nat.zero_mod _, by decide⟩
def un_ (x : Int64) : Nat := x.toBitVec.toNat
theorem un_lt (x : Int64) : un_ x < 2 ^ 64 := x.toBitVec.isLt
theorem un_lN (x : Int64) : x = lN (un_ x) := wb_inj (by rw [wb_tb]; unfold un_; simp)
theorem un_of {n : Nat} (h : n < 2 ^ 64) : un_ (lN n) = n := wb_tn h
theorem c_Ref_addX (l : Launch) (A : Nat → Prop) (ad : Nat → Nat) (D : va_G) (cB cJ : ClassId) (o r : Nat) (hne : o ≠ r) (hA : ∀ q, rA o r q → A q) (cd : Int32) (la : Int64) (lo hi re wi fr bi mi : Int32) (am : Int64) (we : Int32) (f : Nat → Int32) (N : Nat) (hf : RowIs f N) (hI : RI lo hi N) (a0 : Int64) (a1 : Int32) (P : Nat) (hP9 : (2200 : Int32) + a1 = nI P) (hP4 : P < 4400) (hS4 : N + un_ a0 * 2 ^ P < 2 ^ 4399) :
    Met l y_Ref_add (Cond.code y_Ref_add b_Ref_add 9 none :: BT) ({ frames := 1, cells := 0, slots := 0, locals := 22 } : Room) (PR A ad D cB cJ o r (rf_ cd la r lo hi re wi fr bi mi am we) f [.long a0, .int a1]) (QP D cB o r (fun v fs' f' => v = none ∧ ∃ lo' hi', fs' = (rf_ cd la r lo' hi' re wi fr bi mi am we) ∧ RowIs f' (N + un_ a0 * 2 ^ P) ∧ RI lo' hi' (N + un_ a0 * 2 ^ P))) 0 0 (rA o r) := by
  have h := c_Ref_add l A ad D cB cJ o r hne hA cd la lo hi re wi fr bi mi am we f N hf hI (un_ a0) (un_lt a0) a1 P hP9 hP4 hS4
  rw [← un_lN a0] at h
  exact h
theorem c_Ref_takeX (l : Launch) (A : Nat → Prop) (ad : Nat → Nat) (D : va_G) (cB cJ : ClassId) (o r : Nat) (hne : o ≠ r) (hA : ∀ q, rA o r q → A q) (cd : Int32) (la : Int64) (lo hi re wi fr bi mi : Int32) (am : Int64) (we : Int32) (f : Nat → Int32) (N : Nat) (hf : RowIs f N) (hI : RI lo hi N) (a0 : Int64) (a1 : Int32) (P : Nat) (hP9 : (2200 : Int32) + a1 = nI P) (hP4 : P < 4400) (hN4 : N < 2 ^ 4399) (hle : un_ a0 * 2 ^ P ≤ N) :
    Met l y_Ref_take (Cond.code y_Ref_take b_Ref_take 9 none :: BT) ({ frames := 1, cells := 0, slots := 0, locals := 22 } : Room) (PR A ad D cB cJ o r (rf_ cd la r lo hi re wi fr bi mi am we) f [.long a0, .int a1]) (QP D cB o r (fun v fs' f' => v = none ∧ ∃ lo' hi', fs' = (rf_ cd la r lo' hi' re wi fr bi mi am we) ∧ RowIs f' (N - un_ a0 * 2 ^ P) ∧ RI lo' hi' (N - un_ a0 * 2 ^ P))) 0 0 (rA o r) := by
  have h := c_Ref_take l A ad D cB cJ o r hne hA cd la lo hi re wi fr bi mi am we f N hf hI (un_ a0) (un_lt a0) a1 P hP9 hP4 hN4 (N - un_ a0 * 2 ^ P) (by omega)
  rw [← un_lN a0] at h
  exact h
/-- a small number far below the row's end -/
theorem fits_row {x : Int64} {P : Nat} (hP : P ≤ 3400) : 0 + un_ x * 2 ^ P < 2 ^ 4399 := by
  rw [Nat.zero_add]
  have h1 : un_ x * 2 ^ P < 2 ^ 64 * 2 ^ P := Nat.mul_lt_mul_of_pos_right (un_lt x) (Nat.two_pow_pos P)
  rw [← Nat.pow_add] at h1
  exact Nat.lt_of_lt_of_le h1 (Nat.pow_le_pow_right (by decide) (by omega))
theorem un_pos {x : Int64} (h : ¬ x = 0) : 0 < un_ x := by
  rcases Nat.eq_zero_or_pos (un_ x) with z | z
  · exact absurd (by rw [un_lN x, z]; rfl) h
  · exact z
/-- the forms that the reference is set to -/
def fmR (wi fr bi : Int32) (F B : Nat) : Prop := (wi = 32 ∧ fr = nI 23 ∧ bi = nI 127 ∧ F = 23 ∧ B = 127) ∨ (wi = 64 ∧ fr = nI 52 ∧ bi = nI 1023 ∧ F = 52 ∧ B = 1023)
theorem fmR_f {wi fr bi : Int32} {F B : Nat} (h : fmR wi fr bi F B) : fr = nI F := by rcases h with ⟨-, h, -, rfl, -⟩ | ⟨-, h, -, rfl, -⟩ <;> exact h
theorem fmR_b {wi fr bi : Int32} {F B : Nat} (h : fmR wi fr bi F B) : bi = nI B := by rcases h with ⟨-, -, h, -, rfl⟩ | ⟨-, -, h, -, rfl⟩ <;> exact h
theorem fmR_FB {wi fr bi : Int32} {F B : Nat} (h : fmR wi fr bi F B) : (F = 23 ∧ B = 127) ∨ (F = 52 ∧ B = 1023) := by rcases h with ⟨-, -, -, a, b⟩ | ⟨-, -, -, a, b⟩ <;> omega
