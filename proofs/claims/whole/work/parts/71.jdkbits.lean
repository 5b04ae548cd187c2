/-! the JDK's trailing zeros and bit counts -/
theorem nI_and {a b : Nat} (ha : a < 2 ^ 32) (hb : b < 2 ^ 32) : nI a &&& nI b = nI (a &&& b) := by
  apply Int32.toBitVec_inj.mp
  show BitVec.ofNat 32 a &&& BitVec.ofNat 32 b = BitVec.ofNat 32 (a &&& b)
  apply BitVec.eq_of_toNat_eq
  rw [BitVec.toNat_and, BitVec.toNat_ofNat, BitVec.toNat_ofNat, BitVec.toNat_ofNat, Nat.mod_eq_of_lt ha, Nat.mod_eq_of_lt hb, Nat.mod_eq_of_lt (Nat.and_lt_two_pow a hb)]
theorem nI_not {a : Nat} (ha : a < 2 ^ 32) : nI a ^^^ (-1 : Int32) = nI (2 ^ 32 - (a + 1)) := by
  have e1 : nI a ^^^ (-1 : Int32) = ~~~ nI a := Int32.xor_neg_one
  have e2 : ~~~ nI a = - nI a - 1 := Int32.not_eq_neg_sub (a := nI a)
  rw [e1, e2, ← zI_n, zI_neg, show (1 : Int32) = zI 1 from rfl, zI_sub, ← zI_n]
  apply Int32.toBitVec_inj.mp
  show BitVec.ofInt 32 _ = BitVec.ofInt 32 _
  apply BitVec.eq_of_toNat_eq
  rw [BitVec.toNat_ofInt, BitVec.toNat_ofInt]
  omega
theorem ntz_i {n t c : Nat} (hn : n < 2 ^ 32) (e : n = (2 * c + 1) * 2 ^ t) : q_Integer_numberOfTrailingZeros (nI n) = nI t := by
  have hp := Nat.two_pow_pos t
  have h0 : 1 ≤ n := by rw [e]; exact Nat.mul_pos (by omega) hp
  have ht : t < 32 := by
    rcases Nat.lt_or_ge t 32 with h | h
    · exact h
    · have h1 := Nat.pow_le_pow_right (show 0 < 2 by decide) h
      have h2 : 1 * 2 ^ t ≤ (2 * c + 1) * 2 ^ t := Nat.mul_le_mul_right _ (by omega)
      omega
  have hx : (nI n ^^^ (-1 : Int32)) &&& (nI n - (1 : Int32)) = nI (2 ^ t - 1) := by
    rw [nI_not hn, show nI n - (1 : Int32) = nI (n - 1) from pk_sub (b := 1) h0, nI_and (by omega) (by omega), nt_mask hn e]
  unfold q_Integer_numberOfTrailingZeros
  rw [hx]
  clear hx h0 hp e hn
  revert t
  decide +kernel
theorem ntz_e {n t c : Nat} (hn : n < 2 ^ 64) (e : n = (2 * c + 1) * 2 ^ t) : q_Long_numberOfTrailingZeros (lN n) = nI t := by
  have hp := Nat.two_pow_pos t
  unfold q_Long_numberOfTrailingZeros
  rw [show (32 : Int32) = nI 32 from rfl, ush_lN hn (by decide), lN_i, lN_i, nI_md n]
  by_cases ht : t < 32
  · have e2 : n % 2 ^ 32 = ((2 * c + 1) % 2 ^ (32 - t)) * 2 ^ t := by
      rw [e, show (2 : Nat) ^ 32 = 2 ^ (32 - t) * 2 ^ t by rw [← Nat.pow_add]; congr 1; omega, Nat.mul_mod_mul_right]
    have e3 : (2 * c + 1) % 2 ^ (32 - t) = 2 * ((2 * c + 1) % 2 ^ (32 - t) / 2) + 1 := by
      have h2 : (2 * c + 1) % 2 ^ (32 - t) % 2 = 1 := by
        rw [Nat.mod_mod_of_dvd _ (show 2 ∣ 2 ^ (32 - t) from ⟨2 ^ (31 - t), by rw [← Nat.pow_succ']; congr 1; omega⟩)]; omega
      omega
    rw [e3] at e2
    have hne : ¬ nI (n % 2 ^ 32) = 0 := fun z => by
      have := nI_z32 (Nat.mod_lt _ (by decide)) z
      rw [e2] at this
      have := Nat.mul_pos (show 0 < 2 * ((2 * c + 1) % 2 ^ (32 - t) / 2) + 1 by omega) hp
      omega
    rw [if_neg hne]
    exact ntz_i (Nat.mod_lt _ (by decide)) e2
  · have e4 : n = (2 * c + 1) * 2 ^ (t - 32) * 2 ^ 32 := by rw [e, Nat.mul_assoc, ← Nat.pow_add]; congr 2; omega
    have e5 : n % 2 ^ 32 = 0 := by rw [e4]; exact Nat.mul_mod_left _ _
    have e6 : n / 2 ^ 32 = (2 * c + 1) * 2 ^ (t - 32) := by rw [e4]; exact Nat.mul_div_cancel _ (by decide)
    rw [e5, if_pos (show nI 0 = 0 from rfl), ntz_i (by omega) e6, nI_add]
    congr 1; omega
/-! the count, byte by byte -/
theorem and_spl {u v x y : Nat} (hu : u < 256) (hv : v < 256) : (u + 256 * x) &&& (v + 256 * y) = (u &&& v) + 256 * (x &&& y) := by
  apply Nat.eq_of_testBit_eq
  intro j
  have h1 : (u &&& v) < 2 ^ 8 := Nat.and_lt_two_pow u hv
  rw [Nat.testBit_and, Nat.add_comm u, Nat.add_comm v, Nat.add_comm (u &&& v), show 256 = 2 ^ 8 from rfl, Nat.testBit_two_pow_mul_add _ hu, Nat.testBit_two_pow_mul_add _ hv, Nat.testBit_two_pow_mul_add _ h1]
  split <;> rw [Nat.testBit_and]
def hr_ (a b c d e f g h : Nat) : Nat := a + 256 * (b + 256 * (c + 256 * (d + 256 * (e + 256 * (f + 256 * (g + 256 * h))))))
theorem and_hr {a b c d e f g h m : Nat} (ha : a < 256) (hb : b < 256) (hc : c < 256) (hd : d < 256) (he : e < 256) (hf : f < 256) (hg : g < 256) (hm : m < 256) : hr_ a b c d e f g h &&& hr_ m m m m m m m m = hr_ (a &&& m) (b &&& m) (c &&& m) (d &&& m) (e &&& m) (f &&& m) (g &&& m) (h &&& m) := by
  unfold hr_
  rw [and_spl ha hm, and_spl hb hm, and_spl hc hm, and_spl hd hm, and_spl he hm, and_spl hf hm, and_spl hg hm]
def g1_ (b : Nat) : Nat := b / 2 &&& 85
def c1_ (b : Nat) : Nat := b - g1_ b
def e1_ (c : Nat) : Nat := (c &&& 51) + (c / 4 &&& 51)
def h1_ (e : Nat) : Nat := (e + e / 16) % 16
theorem g1_c : ∀ b : Nat, b < 256 → ∀ c : Nat, c < 2 → (b / 2 + 128 * c) &&& 85 = g1_ b := by decide +kernel
theorem g1_l : ∀ b : Nat, b < 256 → g1_ b ≤ b ∧ c1_ b < 256 ∧ e1_ (c1_ b) % 16 ≤ 4 ∧ e1_ (c1_ b) / 16 ≤ 4 ∧ c1_ b &&& 51 < 256 ∧ c1_ b / 4 &&& 51 < 256 ∧ h1_ (e1_ (c1_ b)) ≤ 8 ∧ h1_ (e1_ (c1_ b)) = pb_ 8 b := by decide +kernel
theorem c1_c : ∀ b : Nat, b < 256 → ∀ c : Nat, c < 4 → (c1_ b / 4 + 64 * c) &&& 51 = c1_ b / 4 &&& 51 := by decide +kernel
theorem pb_add (j k n : Nat) : pb_ (j + k) n = pb_ j n + pb_ k (n / 2 ^ j) := by
  induction j generalizing n with
  | zero => simp [pb_]
  | succ j ih =>
    rw [show j + 1 + k = (j + k) + 1 by omega]
    unfold pb_
    rw [ih, Nat.div_div_eq_div_mul, ← Nat.pow_succ']
    omega
theorem pb_mod (n : Nat) : pb_ 8 n = pb_ 8 (n % 256) := by
  simp only [pb_]
  omega
theorem pb_z (k : Nat) : pb_ k 0 = 0 := by
  induction k with
  | zero => rfl
  | succ k ih => unfold pb_; rw [Nat.zero_div, ih]
theorem bc_e {n : Nat} (hn : n < 2 ^ 64) : q_Long_bitCount (lN n) = nI (pb_ 64 n) := by
  obtain ⟨a, ha⟩ : ∃ a, a = n % 256 := ⟨_, rfl⟩
  obtain ⟨b, hb⟩ : ∃ b, b = n / 2 ^ 8 % 256 := ⟨_, rfl⟩
  obtain ⟨c, hc⟩ : ∃ c, c = n / 2 ^ 16 % 256 := ⟨_, rfl⟩
  obtain ⟨d, hd⟩ : ∃ d, d = n / 2 ^ 24 % 256 := ⟨_, rfl⟩
  obtain ⟨e, he⟩ : ∃ e, e = n / 2 ^ 32 % 256 := ⟨_, rfl⟩
  obtain ⟨f, hf⟩ : ∃ f, f = n / 2 ^ 40 % 256 := ⟨_, rfl⟩
  obtain ⟨g, hg⟩ : ∃ g, g = n / 2 ^ 48 % 256 := ⟨_, rfl⟩
  obtain ⟨h, hh⟩ : ∃ h, h = n / 2 ^ 56 % 256 := ⟨_, rfl⟩
  have hpb : pb_ 64 n = pb_ 8 a + pb_ 8 b + pb_ 8 c + pb_ 8 d + pb_ 8 e + pb_ 8 f + pb_ 8 g + pb_ 8 h := by
    rw [ha, hb, hc, hd, he, hf, hg, hh, ← pb_mod, ← pb_mod, ← pb_mod, ← pb_mod, ← pb_mod, ← pb_mod, ← pb_mod, ← pb_mod,
      show 64 = 8 + (8 + (8 + (8 + (8 + (8 + (8 + 8)))))) from rfl, pb_add, pb_add, pb_add, pb_add, pb_add, pb_add, pb_add]
    simp only [Nat.div_div_eq_div_mul, ← Nat.pow_add]
    omega
  have hN : n = hr_ a b c d e f g h := by unfold hr_; omega
  have la : a < 256 := by omega
  have lb : b < 256 := by omega
  have lc : c < 256 := by omega
  have ld : d < 256 := by omega
  have le : e < 256 := by omega
  have lf : f < 256 := by omega
  have lg : g < 256 := by omega
  have lh : h < 256 := by omega
  obtain ⟨a1, a2, a3, a4, a5, a6, a7, a8⟩ := g1_l a la
  obtain ⟨b1, b2, b3, b4, b5, b6, b7, b8⟩ := g1_l b lb
  obtain ⟨c1, c2, c3, c4, c5, c6, c7, c8⟩ := g1_l c lc
  obtain ⟨d1, d2, d3, d4, d5, d6, d7, d8⟩ := g1_l d ld
  obtain ⟨e1, e2, e3, e4, e5, e6, e7, e8⟩ := g1_l e le
  obtain ⟨f1, f2, f3, f4, f5, f6, f7, f8⟩ := g1_l f lf
  obtain ⟨g1, g2, g3, g4, g5, g6, g7, g8⟩ := g1_l g lg
  obtain ⟨h1, h2, h3, h4, h5, h6, h7, h8⟩ := g1_l h lh
  have m1 : n / 2 &&& 6148914691236517205 = hr_ (g1_ a) (g1_ b) (g1_ c) (g1_ d) (g1_ e) (g1_ f) (g1_ g) (g1_ h) := by
    have q : n / 2 = hr_ (a / 2 + 128 * (b % 2)) (b / 2 + 128 * (c % 2)) (c / 2 + 128 * (d % 2)) (d / 2 + 128 * (e % 2)) (e / 2 + 128 * (f % 2)) (f / 2 + 128 * (g % 2)) (g / 2 + 128 * (h % 2)) (h / 2 + 128 * 0) := by rw [hN]; unfold hr_; omega
    rw [q, show 6148914691236517205 = hr_ 85 85 85 85 85 85 85 85 from rfl, and_hr (by omega) (by omega) (by omega) (by omega) (by omega) (by omega) (by omega) (by omega), g1_c a la _ (by omega), g1_c b lb _ (by omega), g1_c c lc _ (by omega), g1_c d ld _ (by omega), g1_c e le _ (by omega), g1_c f lf _ (by omega), g1_c g lg _ (by omega), g1_c h lh _ (by omega)]
  obtain ⟨A, hA⟩ : ∃ A, A = c1_ a := ⟨_, rfl⟩
  obtain ⟨B, hB⟩ : ∃ B, B = c1_ b := ⟨_, rfl⟩
  obtain ⟨C, hC⟩ : ∃ C, C = c1_ c := ⟨_, rfl⟩
  obtain ⟨D, hD⟩ : ∃ D, D = c1_ d := ⟨_, rfl⟩
  obtain ⟨E, hE⟩ : ∃ E, E = c1_ e := ⟨_, rfl⟩
  obtain ⟨Fx, hF⟩ : ∃ F, F = c1_ f := ⟨_, rfl⟩
  obtain ⟨G, hG⟩ : ∃ G, G = c1_ g := ⟨_, rfl⟩
  obtain ⟨H, hH⟩ : ∃ H, H = c1_ h := ⟨_, rfl⟩
  have s1 : n - (n / 2 &&& 6148914691236517205) = hr_ A B C D E Fx G H := by
    rw [m1, hN, hA, hB, hC, hD, hE, hF, hG, hH]; unfold hr_ c1_; omega
  have s1l : hr_ (g1_ a) (g1_ b) (g1_ c) (g1_ d) (g1_ e) (g1_ f) (g1_ g) (g1_ h) ≤ n := by rw [hN]; unfold hr_; omega
  rw [← hA] at a2 a3 a4 a5 a6 a7 a8
  rw [← hB] at b2 b3 b4 b5 b6 b7 b8
  rw [← hC] at c2 c3 c4 c5 c6 c7 c8
  rw [← hD] at d2 d3 d4 d5 d6 d7 d8
  rw [← hE] at e2 e3 e4 e5 e6 e7 e8
  rw [← hF] at f2 f3 f4 f5 f6 f7 f8
  rw [← hG] at g2 g3 g4 g5 g6 g7 g8
  rw [← hH] at h2 h3 h4 h5 h6 h7 h8
  have m2 : hr_ A B C D E Fx G H &&& 3689348814741910323 = hr_ (A &&& 51) (B &&& 51) (C &&& 51) (D &&& 51) (E &&& 51) (Fx &&& 51) (G &&& 51) (H &&& 51) := by
    rw [show 3689348814741910323 = hr_ 51 51 51 51 51 51 51 51 from rfl, and_hr a2 b2 c2 d2 e2 f2 g2 (by decide)]
  have m3 : hr_ A B C D E Fx G H / 4 &&& 3689348814741910323 = hr_ (A / 4 &&& 51) (B / 4 &&& 51) (C / 4 &&& 51) (D / 4 &&& 51) (E / 4 &&& 51) (Fx / 4 &&& 51) (G / 4 &&& 51) (H / 4 &&& 51) := by
    have q : hr_ A B C D E Fx G H / 4 = hr_ (A / 4 + 64 * (B % 4)) (B / 4 + 64 * (C % 4)) (C / 4 + 64 * (D % 4)) (D / 4 + 64 * (E % 4)) (E / 4 + 64 * (Fx % 4)) (Fx / 4 + 64 * (G % 4)) (G / 4 + 64 * (H % 4)) (H / 4 + 64 * 0) := by unfold hr_; omega
    rw [q, show 3689348814741910323 = hr_ 51 51 51 51 51 51 51 51 from rfl, and_hr (by omega) (by omega) (by omega) (by omega) (by omega) (by omega) (by omega) (by omega), hA, hB, hC, hD, hE, hF, hG, hH, c1_c a la _ (by omega), c1_c b lb _ (by omega), c1_c c lc _ (by omega), c1_c d ld _ (by omega), c1_c e le _ (by omega), c1_c f lf _ (by omega), c1_c g lg _ (by omega), c1_c h lh _ (by omega)]
  have s2 : hr_ (A &&& 51) (B &&& 51) (C &&& 51) (D &&& 51) (E &&& 51) (Fx &&& 51) (G &&& 51) (H &&& 51) + hr_ (A / 4 &&& 51) (B / 4 &&& 51) (C / 4 &&& 51) (D / 4 &&& 51) (E / 4 &&& 51) (Fx / 4 &&& 51) (G / 4 &&& 51) (H / 4 &&& 51) = hr_ (e1_ A) (e1_ B) (e1_ C) (e1_ D) (e1_ E) (e1_ Fx) (e1_ G) (e1_ H) := by unfold hr_ e1_; omega
  have l2 : hr_ (e1_ A) (e1_ B) (e1_ C) (e1_ D) (e1_ E) (e1_ Fx) (e1_ G) (e1_ H) < 2 ^ 63 := by unfold hr_; omega
  have s3 : hr_ (e1_ A) (e1_ B) (e1_ C) (e1_ D) (e1_ E) (e1_ Fx) (e1_ G) (e1_ H) + hr_ (e1_ A) (e1_ B) (e1_ C) (e1_ D) (e1_ E) (e1_ Fx) (e1_ G) (e1_ H) / 16 &&& 1085102592571150095 = hr_ (h1_ (e1_ A)) (h1_ (e1_ B)) (h1_ (e1_ C)) (h1_ (e1_ D)) (h1_ (e1_ E)) (h1_ (e1_ Fx)) (h1_ (e1_ G)) (h1_ (e1_ H)) := by
    have q : hr_ (e1_ A) (e1_ B) (e1_ C) (e1_ D) (e1_ E) (e1_ Fx) (e1_ G) (e1_ H) + hr_ (e1_ A) (e1_ B) (e1_ C) (e1_ D) (e1_ E) (e1_ Fx) (e1_ G) (e1_ H) / 16 = hr_ (e1_ A + e1_ A / 16 + 16 * (e1_ B % 16)) (e1_ B + e1_ B / 16 + 16 * (e1_ C % 16)) (e1_ C + e1_ C / 16 + 16 * (e1_ D % 16)) (e1_ D + e1_ D / 16 + 16 * (e1_ E % 16)) (e1_ E + e1_ E / 16 + 16 * (e1_ Fx % 16)) (e1_ Fx + e1_ Fx / 16 + 16 * (e1_ G % 16)) (e1_ G + e1_ G / 16 + 16 * (e1_ H % 16)) (e1_ H + e1_ H / 16) := by unfold hr_; omega
    have md : ∀ x : Nat, x &&& 15 = x % 16 := fun x => Nat.and_two_pow_sub_one_eq_mod x 4
    rw [q, show 1085102592571150095 = hr_ 15 15 15 15 15 15 15 15 from rfl, and_hr (by omega) (by omega) (by omega) (by omega) (by omega) (by omega) (by omega) (by omega)]
    simp only [md, Nat.add_mul_mod_self_left]
    rfl
  have i1 : ush_ (lN n) 1 = lN (n / 2) := ush_lN (k := 1) hn (by decide)
  have j1 : lN (n / 2) &&& (6148914691236517205 : Int64) = lN (n / 2 &&& 6148914691236517205) := wb_and (b := 6148914691236517205) (by omega) (by decide)
  have k1 : lN n - lN (n / 2 &&& 6148914691236517205) = lN (n - (n / 2 &&& 6148914691236517205)) := lN_sub (by rw [m1]; exact s1l)
  have lS : hr_ A B C D E Fx G H < 2 ^ 64 := by rw [← s1]; omega
  have i2 : ush_ (lN (hr_ A B C D E Fx G H)) 2 = lN (hr_ A B C D E Fx G H / 4) := ush_lN (k := 2) lS (by decide)
  have j2 : lN (hr_ A B C D E Fx G H) &&& (3689348814741910323 : Int64) = lN (hr_ A B C D E Fx G H &&& 3689348814741910323) := wb_and (b := 3689348814741910323) lS (by decide)
  have j3 : lN (hr_ A B C D E Fx G H / 4) &&& (3689348814741910323 : Int64) = lN (hr_ A B C D E Fx G H / 4 &&& 3689348814741910323) := wb_and (b := 3689348814741910323) (by omega) (by decide)
  have i4 : ush_ (lN (hr_ (e1_ A) (e1_ B) (e1_ C) (e1_ D) (e1_ E) (e1_ Fx) (e1_ G) (e1_ H))) 4 = lN (hr_ (e1_ A) (e1_ B) (e1_ C) (e1_ D) (e1_ E) (e1_ Fx) (e1_ G) (e1_ H) / 16) := ush_lN (k := 4) (by omega) (by decide)
  have j4 : lN (hr_ (e1_ A) (e1_ B) (e1_ C) (e1_ D) (e1_ E) (e1_ Fx) (e1_ G) (e1_ H) + hr_ (e1_ A) (e1_ B) (e1_ C) (e1_ D) (e1_ E) (e1_ Fx) (e1_ G) (e1_ H) / 16) &&& (1085102592571150095 : Int64) = lN (hr_ (e1_ A) (e1_ B) (e1_ C) (e1_ D) (e1_ E) (e1_ Fx) (e1_ G) (e1_ H) + hr_ (e1_ A) (e1_ B) (e1_ C) (e1_ D) (e1_ E) (e1_ Fx) (e1_ G) (e1_ H) / 16 &&& 1085102592571150095) := wb_and (b := 1085102592571150095) (by omega) (by decide)
  unfold q_Long_bitCount
  rw [i1, j1, k1, s1, i2, j2, j3, m2, m3, lN_add, s2, i4, lN_add, j4, s3, hpb, ← a8, ← b8, ← c8, ← d8, ← e8, ← f8, ← g8, ← h8]
  generalize h1_ (e1_ A) = p0 at *
  generalize h1_ (e1_ B) = p1 at *
  generalize h1_ (e1_ C) = p2 at *
  generalize h1_ (e1_ D) = p3 at *
  generalize h1_ (e1_ E) = p4 at *
  generalize h1_ (e1_ Fx) = p5 at *
  generalize h1_ (e1_ G) = p6 at *
  generalize h1_ (e1_ H) = p7 at *
  clear s3 j4 i4 l2 s2 m3 m2 j3 j2 i2 lS k1 j1 i1 s1 s1l m1 hpb hN hA hB hC hD hE hF hG hH ha hb hc hd he hf hg hh
  have t1 : hr_ p0 p1 p2 p3 p4 p5 p6 p7 + hr_ p0 p1 p2 p3 p4 p5 p6 p7 / 256 = hr_ (p0 + p1) (p1 + p2) (p2 + p3) (p3 + p4) (p4 + p5) (p5 + p6) (p6 + p7) p7 := by unfold hr_; omega
  have t2 : hr_ (p0 + p1) (p1 + p2) (p2 + p3) (p3 + p4) (p4 + p5) (p5 + p6) (p6 + p7) p7 + hr_ (p0 + p1) (p1 + p2) (p2 + p3) (p3 + p4) (p4 + p5) (p5 + p6) (p6 + p7) p7 / 65536 = hr_ (p0 + p1 + p2 + p3) (p1 + p2 + p3 + p4) (p2 + p3 + p4 + p5) (p3 + p4 + p5 + p6) (p4 + p5 + p6 + p7) (p5 + p6 + p7) (p6 + p7) p7 := by unfold hr_; omega
  have t3 : hr_ (p0 + p1 + p2 + p3) (p1 + p2 + p3 + p4) (p2 + p3 + p4 + p5) (p3 + p4 + p5 + p6) (p4 + p5 + p6 + p7) (p5 + p6 + p7) (p6 + p7) p7 + hr_ (p0 + p1 + p2 + p3) (p1 + p2 + p3 + p4) (p2 + p3 + p4 + p5) (p3 + p4 + p5 + p6) (p4 + p5 + p6 + p7) (p5 + p6 + p7) (p6 + p7) p7 / 4294967296 = (p0 + p1 + p2 + p3 + p4 + p5 + p6 + p7) + 256 * ((p1 + p2 + p3 + p4 + p5 + p6 + p7) + 256 * ((p2 + p3 + p4 + p5 + p6 + p7) + 256 * ((p3 + p4 + p5 + p6 + p7) + 256 * ((p4 + p5 + p6 + p7) + 256 * ((p5 + p6 + p7) + 256 * ((p6 + p7) + 256 * p7)))))) := by unfold hr_; omega
  have u1 : hr_ p0 p1 p2 p3 p4 p5 p6 p7 < 2 ^ 64 := by unfold hr_; omega
  have u2 : hr_ (p0 + p1) (p1 + p2) (p2 + p3) (p3 + p4) (p4 + p5) (p5 + p6) (p6 + p7) p7 < 2 ^ 64 := by unfold hr_; omega
  have u3 : hr_ (p0 + p1 + p2 + p3) (p1 + p2 + p3 + p4) (p2 + p3 + p4 + p5) (p3 + p4 + p5 + p6) (p4 + p5 + p6 + p7) (p5 + p6 + p7) (p6 + p7) p7 < 2 ^ 64 := by unfold hr_; omega
  rw [show ush_ (lN (hr_ p0 p1 p2 p3 p4 p5 p6 p7)) 8 = lN (hr_ p0 p1 p2 p3 p4 p5 p6 p7 / 256) from ush_lN (k := 8) u1 (by decide), lN_add, t1,
    show ush_ (lN (hr_ (p0 + p1) (p1 + p2) (p2 + p3) (p3 + p4) (p4 + p5) (p5 + p6) (p6 + p7) p7)) 16 = lN (hr_ (p0 + p1) (p1 + p2) (p2 + p3) (p3 + p4) (p4 + p5) (p5 + p6) (p6 + p7) p7 / 65536) from ush_lN (k := 16) u2 (by decide), lN_add, t2,
    show ush_ (lN (hr_ (p0 + p1 + p2 + p3) (p1 + p2 + p3 + p4) (p2 + p3 + p4 + p5) (p3 + p4 + p5 + p6) (p4 + p5 + p6 + p7) (p5 + p6 + p7) (p6 + p7) p7)) 32 = lN (hr_ (p0 + p1 + p2 + p3) (p1 + p2 + p3 + p4) (p2 + p3 + p4 + p5) (p3 + p4 + p5 + p6) (p4 + p5 + p6 + p7) (p5 + p6 + p7) (p6 + p7) p7 / 4294967296) from ush_lN (k := 32) u3 (by decide), lN_add, t3, lN_i, nI_md]
  rw [show (127 : Int32) = nI 127 from rfl, nI_and (Nat.mod_lt _ (by decide)) (by decide), show 127 = 2 ^ 7 - 1 from rfl, Nat.and_two_pow_sub_one_eq_mod]
  congr 1
  omega
