/-! the JDK's trailing zeros and bit counts -/
theorem nI_and {a b : Nat} (ha : a < 2 ^ 32) (hb : b < 2 ^ 32) : nI a &&& nI b = nI (a &&& b) := by
  apply Int32.toBitVec_inj.mp
  show BitVec.ofNat 32 a &&& BitVec.ofNat 32 b = BitVec.ofNat 32 (a &&& b)
  apply BitVec.eq_of_toNat_eq
  rw [BitVec.toNat_and, BitVec.toNat_ofNat, BitVec.toNat_ofNat, BitVec.toNat_ofNat, Nat.mod_eq_of_lt ha, Nat.mod_eq_of_lt hb, Nat.mod_eq_of_lt (Nat.and_lt_two_pow a hb)]
theorem nI_not {a : Nat} (ha : a < 2 ^ 32) : nI a ^^^ (-1 : Int32) = nI (2 ^ 32 - (a + 1)) := by
  have e1 : nI a ^^^ (-1 : Int32) = ~~~ nI a := Int32.xor_neg_one
  have e2 : ~~~ nI a = - nI a - 1 := Int32.not_eq_neg_sub (a := nI a)
  rw [e1, e2, ← zI_n, zI_neg, show (1 : Int32) = zI 1 from rfl, zI_sub, ← zI_n]
  apply Int32.toBitVec_inj.mp
  show BitVec.ofInt 32 _ = BitVec.ofInt 32 _
  apply BitVec.eq_of_toNat_eq
  rw [BitVec.toNat_ofInt, BitVec.toNat_ofInt]
  omega
theorem ntz_i {n t c : Nat} (hn : n < 2 ^ 32) (e : n = (2 * c + 1) * 2 ^ t) : q_Integer_numberOfTrailingZeros (nI n) = nI t := by
  have hp := Nat.two_pow_pos t
  have h0 : 1 ≤ n := by rw [e]; exact Nat.mul_pos (by omega) hp
  have ht : t < 32 := by
    rcases Nat.lt_or_ge t 32 with h | h
    · exact h
    · have h1 := Nat.pow_le_pow_right (show 0 < 2 by decide) h
      have h2 : 1 * 2 ^ t ≤ (2 * c + 1) * 2 ^ t := Nat.mul_le_mul_right _ (by omega)
      omega
  have hx : (nI n ^^^ (-1 : Int32)) &&& (nI n - (1 : Int32)) = nI (2 ^ t - 1) := by
    rw [nI_not hn, show nI n - (1 : Int32) = nI (n - 1) from pk_sub (b := 1) h0, nI_and (by omega) (by omega), nt_mask hn e]
  unfold q_Integer_numberOfTrailingZeros
  rw [hx]
  clear hx h0 hp e hn
  revert t
  decide +kernel
theorem ntz_e {n t c : Nat} (hn : n < 2 ^ 64) (e : n = (2 * c + 1) * 2 ^ t) : q_Long_numberOfTrailingZeros (lN n) = nI t := by
  have hp := Nat.two_pow_pos t
  unfold q_Long_numberOfTrailingZeros
  rw [show (32 : Int32) = nI 32 from rfl, ush_lN hn (by decide), lN_i, lN_i, nI_md n]
  by_cases ht : t < 32
  · have e2 : n % 2 ^ 32 = ((2 * c + 1) % 2 ^ (32 - t)) * 2 ^ t := by
      rw [e, show (2 : Nat) ^ 32 = 2 ^ (32 - t) * 2 ^ t by rw [← Nat.pow_add]; congr 1; omega, Nat.mul_mod_mul_right]
    have e3 : (2 * c + 1) % 2 ^ (32 - t) = 2 * ((2 * c + 1) % 2 ^ (32 - t) / 2) + 1 := by
      have h2 : (2 * c + 1) % 2 ^ (32 - t) % 2 = 1 := by
        rw [Nat.mod_mod_of_dvd _ (show 2 ∣ 2 ^ (32 - t) from ⟨2 ^ (31 - t), by rw [← Nat.pow_succ']; congr 1; omega⟩)]; omega
      omega
    rw [e3] at e2
    have hne : ¬ nI (n % 2 ^ 32) = 0 := fun z => by
      have := nI_z32 (Nat.mod_lt _ (by decide)) z
      rw [e2] at this
      have := Nat.mul_pos (show 0 < 2 * ((2 * c + 1) % 2 ^ (32 - t) / 2) + 1 by omega) hp
      omega
    rw [if_neg hne]
    exact ntz_i (Nat.mod_lt _ (by decide)) e2
  · have e4 : n = (2 * c + 1) * 2 ^ (t - 32) * 2 ^ 32 := by rw [e, Nat.mul_assoc, ← Nat.pow_add]; congr 2; omega
    have e5 : n % 2 ^ 32 = 0 := by rw [e4]; exact Nat.mul_mod_left _ _
    have e6 : n / 2 ^ 32 = (2 * c + 1) * 2 ^ (t - 32) := by rw [e4]; exact Nat.mul_div_cancel _ (by decide)
    rw [e5, if_pos (show nI 0 = 0 from rfl), ntz_i (by omega) e6, nI_add]
    congr 1; omega
/-! the count, byte by byte -/
theorem and_spl {u v x y : Nat} (hu : u < 256) (hv : v < 256) : (u + 256 * x) &&& (v + 256 * y) = (u &&& v) + 256 * (x &&& y) := by
  apply Nat.eq_of_testBit_eq
  intro j
  have h1 : (u &&& v) < 2 ^ 8 := Nat.and_lt_two_pow u hv
  rw [Nat.testBit_and, Nat.add_comm u, Nat.add_comm v, Nat.add_comm (u &&& v), show 256 = 2 ^ 8 from rfl, Nat.testBit_two_pow_mul_add _ hu, Nat.testBit_two_pow_mul_add _ hv, Nat.testBit_two_pow_mul_add _ h1]
  split <;> rw [Nat.testBit_and]
/-- numbers of k bytes, byte by byte -/
def by_ (f : Nat → Nat) : Nat → Nat → Nat
  | 0, _ => 0
  | k + 1, n => f (n % 256) + 256 * by_ f k (n / 256)
def bm_ (m : Nat) : Nat → Nat
  | 0 => 0
  | k + 1 => m + 256 * bm_ m k
def g1_ (b : Nat) : Nat := b / 2 &&& 85
def c1_ (b : Nat) : Nat := b - g1_ b
def e0_ (c : Nat) : Nat := (c &&& 51) + (c / 4 &&& 51)
def e1_ (b : Nat) : Nat := e0_ (c1_ b)
def h0_ (e : Nat) : Nat := (e + e / 16) % 16
def h1_ (b : Nat) : Nat := h0_ (e1_ b)
theorem g1_c : ∀ b : Nat, b < 256 → ∀ c : Nat, c < 2 → (b / 2 + 128 * c) &&& 85 = g1_ b := by decide +kernel
theorem c1_c : ∀ b : Nat, b < 256 → ∀ c : Nat, c < 4 → (c1_ b / 4 + 64 * c) &&& 51 = c1_ b / 4 &&& 51 := by decide +kernel
theorem by_l : ∀ b : Nat, b < 256 → g1_ b ≤ b ∧ c1_ b < 256 ∧ e1_ b % 16 ≤ 4 ∧ e1_ b / 16 ≤ 4 ∧ h1_ b ≤ 8 ∧ h1_ b = pb_ 8 b := by decide +kernel
theorem by_s1 : ∀ (k n : Nat), n < 256 ^ k → (n / 2 &&& bm_ 85 k) ≤ n ∧ n - (n / 2 &&& bm_ 85 k) = by_ c1_ k n := by
  intro k
  induction k with
  | zero => intro n h; rw [Nat.pow_zero] at h; have : n = 0 := by omega
            subst this; exact ⟨by decide, rfl⟩
  | succ k ih =>
    intro n h
    have hx : n / 256 < 256 ^ k := by rw [Nat.div_lt_iff_lt_mul (by decide), ← Nat.pow_succ]; exact h
    obtain ⟨i1, i2⟩ := ih _ hx
    have e : n / 2 = (n % 256 / 2 + 128 * (n / 256 % 2)) + 256 * (n / 256 / 2) := by omega
    have hu : n % 256 < 256 := Nat.mod_lt _ (by decide)
    obtain ⟨l1, l2, -⟩ := by_l _ hu
    unfold bm_ by_
    rw [e, and_spl (by omega) (by decide), g1_c _ hu _ (Nat.mod_lt _ (by decide))]
    generalize (n / 256 / 2 &&& bm_ 85 k) = z at *
    refine ⟨by omega, ?_⟩
    rw [← i2]
    unfold c1_
    omega
theorem by_s2 : ∀ (k n : Nat), (by_ c1_ k n &&& bm_ 51 k) + (by_ c1_ k n / 4 &&& bm_ 51 k) = by_ e1_ k n := by
  intro k
  induction k with
  | zero => intro n; unfold by_ bm_; rfl
  | succ k ih =>
    intro n
    have hu : n % 256 < 256 := Nat.mod_lt _ (by decide)
    obtain ⟨-, l2, -⟩ := by_l _ hu
    unfold bm_ by_
    have e : (c1_ (n % 256) + 256 * by_ c1_ k (n / 256)) / 4 = (c1_ (n % 256) / 4 + 64 * (by_ c1_ k (n / 256) % 4)) + 256 * (by_ c1_ k (n / 256) / 4) := by
      generalize by_ c1_ k (n / 256) = z
      generalize c1_ (n % 256) = c
      omega
    rw [e, and_spl l2 (by decide), and_spl (by generalize by_ c1_ k (n / 256) = z; omega) (by decide), c1_c _ hu _ (Nat.mod_lt _ (by decide)), ← ih]
    unfold e1_ e0_
    omega
theorem by_m16 (k n : Nat) : by_ e1_ k n % 16 ≤ 4 := by
  cases k with
  | zero => unfold by_; decide
  | succ k =>
    obtain ⟨-, -, l3, -⟩ := by_l (n % 256) (Nat.mod_lt _ (by decide))
    unfold by_
    generalize by_ e1_ k (n / 256) = z
    omega
theorem and_15 (x : Nat) : x &&& 15 = x % 16 := Nat.and_two_pow_sub_one_eq_mod x 4
theorem by_s3 : ∀ (k n : Nat), (by_ e1_ k n + by_ e1_ k n / 16 &&& bm_ 15 k) = by_ h1_ k n := by
  intro k
  induction k with
  | zero => intro n; unfold by_ bm_; rfl
  | succ k ih =>
    intro n
    obtain ⟨-, -, l3, l4, -⟩ := by_l (n % 256) (Nat.mod_lt _ (by decide))
    have hm := by_m16 k (n / 256)
    have hi := ih (n / 256)
    unfold bm_ by_
    rw [← hi]
    generalize by_ e1_ k (n / 256) = z at *
    unfold h1_ h0_
    generalize e1_ (n % 256) = c at *
    have e : c + 256 * z + (c + 256 * z) / 16 = (c + c / 16 + 16 * (z % 16)) + 256 * (z + z / 16) := by omega
    rw [e, and_spl (by omega) (by decide), and_15]
    omega
theorem by_lt (f : Nat → Nat) (hf : ∀ b, b < 256 → f b < 256) : ∀ (k n : Nat), by_ f k n < 256 ^ k := by
  intro k
  induction k with
  | zero => intro n; exact Nat.zero_lt_one
  | succ k ih =>
    intro n
    have h1 := hf (n % 256) (Nat.mod_lt _ (by decide))
    have h2 := ih (n / 256)
    unfold by_
    rw [Nat.pow_succ]
    omega
theorem pb_add (j k n : Nat) : pb_ (j + k) n = pb_ j n + pb_ k (n / 2 ^ j) := by
  induction j generalizing n with
  | zero => rw [Nat.zero_add, Nat.pow_zero, Nat.div_one]; exact (Nat.zero_add _).symm
  | succ j ih =>
    rw [show j + 1 + k = (j + k) + 1 by omega]
    show n % 2 + pb_ (j + k) (n / 2) = n % 2 + pb_ j (n / 2) + _
    rw [ih, Nat.div_div_eq_div_mul, ← Nat.pow_succ', Nat.add_assoc]
theorem pb_md : ∀ (j n : Nat), pb_ j n = pb_ j (n % 2 ^ j) := by
  intro j
  induction j with
  | zero => intro n; rfl
  | succ j ih =>
    intro n
    show n % 2 + pb_ j (n / 2) = n % 2 ^ (j + 1) % 2 + pb_ j (n % 2 ^ (j + 1) / 2)
    rw [Nat.mod_mod_of_dvd n (show 2 ∣ 2 ^ (j + 1) from ⟨2 ^ j, Nat.pow_succ'⟩), Nat.pow_succ', Nat.mod_mul_right_div_self, ← ih]
theorem pb_mod (n : Nat) : pb_ 8 n = pb_ 8 (n % 256) := pb_md 8 n
theorem pb_z (k : Nat) : pb_ k 0 = 0 := by
  induction k with
  | zero => rfl
  | succ k ih => show 0 % 2 + pb_ k (0 / 2) = 0; rw [Nat.zero_div, ih]
theorem by_le (f : Nat → Nat) (c : Nat) (hf : ∀ b, b < 256 → f b ≤ c) : ∀ (k n : Nat), 255 * by_ f k n + c ≤ c * 256 ^ k := by
  intro k
  induction k with
  | zero => intro n; unfold by_; omega
  | succ k ih =>
    intro n
    have h1 := hf (n % 256) (Nat.mod_lt _ (by decide))
    have h2 := ih (n / 256)
    unfold by_
    rw [Nat.pow_succ, ← Nat.mul_assoc]
    generalize c * 256 ^ k = P at *
    generalize by_ f k (n / 256) = z at *
    generalize f (n % 256) = u at *
    omega
theorem dv_LU {L U c : Nat} (h : L < c) : (L + c * U) / c = U := by rw [Nat.add_mul_div_left _ _ (by omega), Nat.div_eq_of_lt h, Nat.zero_add]
theorem bs_e2 {m p0 p1 p2 Y0 Y1 Y2 : Nat} (hm : m = p0 + 256 * Y0) (h0 : Y0 = p1 + 256 * Y1) (h1 : Y1 = p2 + 256 * Y2) : m + Y0 = (p0 + 257 * p1 + 256 * p2) + 65536 * (Y1 + Y2) := by omega
theorem bs_e3 {m p0 p1 p2 p3 p4 p5 p6 p7 Y0 Y1 Y2 Y3 Y4 Y5 : Nat} (hm : m = p0 + 256 * Y0) (h0 : Y0 = p1 + 256 * Y1) (h1 : Y1 = p2 + 256 * Y2) (h2 : Y2 = p3 + 256 * Y3) (h3 : Y3 = p4 + 256 * Y4) (h4 : Y4 = p5 + 256 * Y5) (h5 : Y5 = p6 + 256 * p7) : m + Y0 + Y1 + Y2 = ((p0 + p1 + p2 + p3) + 256 * (p1 + p2 + p3 + p4) + 65536 * (p2 + p3 + p4 + p5) + 16777216 * (p3 + p4 + p5 + p6)) + 4294967296 * (Y3 + Y4 + Y5 + p7) := by
  subst h5 h4 h3 h2 h1 h0 hm
  omega
theorem bs_e4 {m p0 p1 p2 p3 p4 p5 p6 p7 Y0 Y1 Y2 Y3 Y4 Y5 : Nat} (hm : m = p0 + 256 * Y0) (h0 : Y0 = p1 + 256 * Y1) (h1 : Y1 = p2 + 256 * Y2) (h2 : Y2 = p3 + 256 * Y3) (h3 : Y3 = p4 + 256 * Y4) (h4 : Y4 = p5 + 256 * Y5) (h5 : Y5 = p6 + 256 * p7) : m + Y0 + Y1 + Y2 + (Y3 + Y4 + Y5 + p7) = (p0 + p1 + p2 + p3 + p4 + p5 + p6 + p7) + 128 * (2 * (Y0 + Y1 + Y2 + Y3 + Y4 + Y5 + p7)) := by
  subst hm
  have e : ∀ a b : Nat, a + b = a + b := fun _ _ => rfl
  omega
theorem bs_b4 {a b c d e f g : Nat} (l0 : a ≤ 8) (l1 : b ≤ 8) (l2 : c ≤ 8) (l3 : d ≤ 8) (l4 : e ≤ 8) (l5 : f ≤ 8) (l6 : g ≤ 8) : (a + b + c + d) + 256 * (b + c + d + e) + 65536 * (c + d + e + f) + 16777216 * (d + e + f + g) < 4294967296 := by
  have h1 : a + b + c + d ≤ 32 := by omega
  have h2 : b + c + d + e ≤ 32 := by omega
  have h3 : c + d + e + f ≤ 32 := by omega
  have h4 : d + e + f + g ≤ 32 := by omega
  generalize a + b + c + d = A at *
  generalize b + c + d + e = B at *
  generalize c + d + e + f = C at *
  generalize d + e + f + g = D at *
  omega
theorem bs_128 {L U : Nat} (h : L ≤ 64) : (L + 128 * U) % 4294967296 % 128 = L := by
  rw [Nat.mod_mod_of_dvd _ (by decide), Nat.add_mul_mod_self_left, Nat.mod_eq_of_lt (by omega)]
theorem by_S (f : Nat → Nat) (k n : Nat) : by_ f (k + 1) n = f (n % 256) + 256 * by_ f k (n / 256) := rfl
theorem bc_e {n : Nat} (hn : n < 2 ^ 64) : q_Long_bitCount (lN n) = nI (pb_ 64 n) := by
  have hn8 : n < 256 ^ 8 := hn
  obtain ⟨s1l, s1⟩ := by_s1 8 n hn8
  have s2 := by_s2 8 n
  have s3 := by_s3 8 n
  rw [show bm_ 85 8 = 6148914691236517205 from rfl] at s1 s1l
  rw [show bm_ 51 8 = 3689348814741910323 from rfl] at s2
  rw [show bm_ 15 8 = 1085102592571150095 from rfl] at s3
  have lc : by_ c1_ 8 n < 2 ^ 64 := by_lt c1_ (fun b hb => (by_l b hb).2.1) 8 n
  have le : 255 * by_ e1_ 8 n + 68 ≤ 68 * 256 ^ 8 := by_le e1_ 68 (fun b hb => by obtain ⟨-, -, l3, l4, -⟩ := by_l b hb; omega) 8 n
  have lh : 255 * by_ h1_ 8 n + 8 ≤ 8 * 256 ^ 8 := by_le h1_ 8 (fun b hb => (by_l b hb).2.2.2.2.1) 8 n
  have i1 : ush_ (lN n) 1 = lN (n / 2) := ush_lN (k := 1) hn (by decide)
  have j1 : lN (n / 2) &&& (6148914691236517205 : Int64) = lN (n / 2 &&& 6148914691236517205) := wb_and (b := 6148914691236517205) (by omega) (by decide)
  have k1 : lN n - lN (n / 2 &&& 6148914691236517205) = lN (by_ c1_ 8 n) := by rw [lN_sub s1l, s1]
  have i2 : ush_ (lN (by_ c1_ 8 n)) 2 = lN (by_ c1_ 8 n / 4) := ush_lN (k := 2) lc (by decide)
  have j2 : lN (by_ c1_ 8 n) &&& (3689348814741910323 : Int64) = lN (by_ c1_ 8 n &&& 3689348814741910323) := wb_and (b := 3689348814741910323) lc (by decide)
  have j3 : lN (by_ c1_ 8 n / 4) &&& (3689348814741910323 : Int64) = lN (by_ c1_ 8 n / 4 &&& 3689348814741910323) := wb_and (b := 3689348814741910323) (by omega) (by decide)
  have i4 : ush_ (lN (by_ e1_ 8 n)) 4 = lN (by_ e1_ 8 n / 16) := ush_lN (k := 4) (by omega) (by decide)
  have j4 : lN (by_ e1_ 8 n + by_ e1_ 8 n / 16) &&& (1085102592571150095 : Int64) = lN (by_ e1_ 8 n + by_ e1_ 8 n / 16 &&& 1085102592571150095) := wb_and (b := 1085102592571150095) (by omega) (by decide)
  unfold q_Long_bitCount
  rw [i1, j1, k1, i2, j2, j3, lN_add, s2, i4, lN_add, j4, s3]
  have hpb : pb_ 64 n = h1_ (n % 256) + h1_ (n / 256 % 256) + h1_ (n / 256 / 256 % 256) + h1_ (n / 256 / 256 / 256 % 256) + h1_ (n / 256 / 256 / 256 / 256 % 256) + h1_ (n / 256 / 256 / 256 / 256 / 256 % 256) + h1_ (n / 256 / 256 / 256 / 256 / 256 / 256 % 256) + h1_ (n / 256 / 256 / 256 / 256 / 256 / 256 / 256 % 256) := by
    have hp : ∀ x : Nat, h1_ (x % 256) = pb_ 8 x := fun x => by rw [(by_l (x % 256) (Nat.mod_lt _ (by decide))).2.2.2.2.2, ← pb_mod]
    rw [hp, hp, hp, hp, hp, hp, hp, hp, show 64 = 8 + (8 + (8 + (8 + (8 + (8 + (8 + 8)))))) from rfl, pb_add, pb_add, pb_add, pb_add, pb_add, pb_add, pb_add, show (2 : Nat) ^ 8 = 256 from rfl]
    simp only [Nat.add_assoc]
  have hl : ∀ x : Nat, h1_ (x % 256) ≤ 8 := fun x => (by_l (x % 256) (Nat.mod_lt _ (by decide))).2.2.2.2.1
  have q0 := by_S h1_ 7 n
  have q1 := by_S h1_ 6 (n / 256)
  have q2 := by_S h1_ 5 (n / 256 / 256)
  have q3 := by_S h1_ 4 (n / 256 / 256 / 256)
  have q4 := by_S h1_ 3 (n / 256 / 256 / 256 / 256)
  have q5 := by_S h1_ 2 (n / 256 / 256 / 256 / 256 / 256)
  have q6 : by_ h1_ 2 (n / 256 / 256 / 256 / 256 / 256 / 256) = h1_ (n / 256 / 256 / 256 / 256 / 256 / 256 % 256) + 256 * h1_ (n / 256 / 256 / 256 / 256 / 256 / 256 / 256 % 256) := by
    rw [by_S, by_S]; rfl
  have l0 := hl n
  have l1 := hl (n / 256)
  have l2 := hl (n / 256 / 256)
  have l3 := hl (n / 256 / 256 / 256)
  have l4 := hl (n / 256 / 256 / 256 / 256)
  have l5 := hl (n / 256 / 256 / 256 / 256 / 256)
  have l6 := hl (n / 256 / 256 / 256 / 256 / 256 / 256)
  have l7 := hl (n / 256 / 256 / 256 / 256 / 256 / 256 / 256)
  rw [hpb]
  clear hpb hl i1 j1 k1 i2 j2 j3 i4 j4 s1 s1l s2 s3 lc le hn8
  generalize h1_ (n % 256) = p0 at *
  generalize h1_ (n / 256 % 256) = p1 at *
  generalize h1_ (n / 256 / 256 % 256) = p2 at *
  generalize h1_ (n / 256 / 256 / 256 % 256) = p3 at *
  generalize h1_ (n / 256 / 256 / 256 / 256 % 256) = p4 at *
  generalize h1_ (n / 256 / 256 / 256 / 256 / 256 % 256) = p5 at *
  generalize h1_ (n / 256 / 256 / 256 / 256 / 256 / 256 % 256) = p6 at *
  generalize h1_ (n / 256 / 256 / 256 / 256 / 256 / 256 / 256 % 256) = p7 at *
  generalize by_ h1_ 8 n = m at *
  generalize by_ h1_ 7 (n / 256) = Y0 at *
  generalize by_ h1_ 6 (n / 256 / 256) = Y1 at *
  generalize by_ h1_ 5 (n / 256 / 256 / 256) = Y2 at *
  generalize by_ h1_ 4 (n / 256 / 256 / 256 / 256) = Y3 at *
  generalize by_ h1_ 3 (n / 256 / 256 / 256 / 256 / 256) = Y4 at *
  generalize by_ h1_ 2 (n / 256 / 256 / 256 / 256 / 256 / 256) = Y5 at *
  have hmb : m < 2 ^ 60 := by clear q0 q1 q2 q3 q4 q5 q6 l0 l1 l2 l3 l4 l5 l6 l7; omega
  have m0 : Y0 ≤ m := by clear q1 q2 q3 q4 q5 q6; omega
  have m1 : Y1 ≤ Y0 := by clear q0 q2 q3 q4 q5 q6; omega
  have m2 : Y2 ≤ Y1 := by clear q0 q1 q3 q4 q5 q6; omega
  have t1 : m / 256 = Y0 := by rw [q0]; exact dv_LU (by omega)
  have t2 : (m + Y0) / 65536 = Y1 + Y2 := by
    rw [bs_e2 q0 q1 q2]; exact dv_LU (by clear q0 q1 q2 q3 q4 q5 q6; omega)
  have t3 : (m + Y0 + (Y1 + Y2)) / 4294967296 = Y3 + Y4 + Y5 + p7 := by
    rw [← Nat.add_assoc, bs_e3 q0 q1 q2 q3 q4 q5 q6]; exact dv_LU (bs_b4 l0 l1 l2 l3 l4 l5 l6)
  have t4 := bs_e4 q0 q1 q2 q3 q4 q5 q6
  have hL : p0 + p1 + p2 + p3 + p4 + p5 + p6 + p7 ≤ 64 := by clear q0 q1 q2 q3 q4 q5 q6 t4 t3 t2 t1; omega
  rw [show ush_ (lN m) 8 = lN (m / 256) from ush_lN (k := 8) (by omega) (by decide), t1, lN_add,
    show ush_ (lN (m + Y0)) 16 = lN ((m + Y0) / 65536) from ush_lN (k := 16) (by omega) (by decide), t2, lN_add,
    show ush_ (lN (m + Y0 + (Y1 + Y2))) 32 = lN ((m + Y0 + (Y1 + Y2)) / 4294967296) from ush_lN (k := 32) (by omega) (by decide), t3, lN_add, ← Nat.add_assoc (m + Y0) Y1 Y2, t4, lN_i, nI_md]
  rw [show (127 : Int32) = nI 127 from rfl, nI_and (Nat.mod_lt _ (by decide)) (by decide), show 127 = 2 ^ 7 - 1 from rfl, Nat.and_two_pow_sub_one_eq_mod]
  congr 1
  exact bs_128 hL
