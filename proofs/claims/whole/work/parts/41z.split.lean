/-! taking a float apart -/
def wt_ (x : Int32) : Nat := (2200 + x.toInt).toNat
/-- size and exponent of a value of the form -/
theorem sz_lN {wi fr bi : Int32} {F B : Nat} (h : fmR wi fr bi F B) (n : Nat) (hn : n < 2 ^ 64) : ∃ W : Nat, (W = 31 ∧ F = 23 ∨ W = 63 ∧ F = 52) ∧ q_Ref_size wi (lN n) = lN (n % 2 ^ W) := by
  rcases h with ⟨rfl, rfl, rfl, rfl, rfl⟩ | ⟨rfl, rfl, rfl, rfl, rfl⟩
  · refine ⟨31, Or.inl ⟨rfl, rfl⟩, ?_⟩
    unfold q_Ref_size
    rw [show shl_ (1 : Int64) ((32 : Int32) - 1) - 1 = lN (2 ^ 31 - 1) by decide]
    exact wb_mask hn (by decide)
  · refine ⟨63, Or.inr ⟨rfl, rfl⟩, ?_⟩
    unfold q_Ref_size
    rw [show shl_ (1 : Int64) ((64 : Int32) - 1) - 1 = lN (2 ^ 63 - 1) by decide]
    exact wb_mask hn (by decide)
theorem shr_lN63 {n k : Nat} (hn : n < 2 ^ 63) (hk : k < 64) : shr_ (lN n) (nI k) = lN (n / 2 ^ k) := by
  unfold shr_
  rw [wb_c k hk]
  have hd : n / 2 ^ k ≤ n := Nat.div_le_self _ _
  apply Int64.toInt_inj.mp
  have e : (lN n >>> lN k).toInt = (lN n).toInt >>> k := by
    have hD : ((lN k).toBitVec.smod 64).toNat = k := by rw [wb_tb, wb_sm k hk, BitVec.toNat_ofNat, Nat.mod_eq_of_lt (by omega)]
    show ((lN n).toBitVec.sshiftRight ((lN k).toBitVec.smod 64).toNat).toInt = _
    rw [hD]
    exact BitVec.toInt_sshiftRight ..
  rw [e, Int.shiftRight_eq_div_pow, lN_ti (by omega), lN_ti (by omega), if_pos hn, if_pos (by omega)]
  rfl
/-- exponent and scale, as numbers -/
theorem sp_we {wi fr bi : Int32} {F B : Nat} (h : fmR wi fr bi F B) (n : Nat) (hn : n < 2 ^ 64) : ∃ W y : Nat, (W = 31 ∧ F = 23 ∨ W = 63 ∧ F = 52) ∧ y = n % 2 ^ W ∧ y / 2 ^ F < 2 ^ 11 ∧ y / 2 ^ F ≤ 2 * B + 1 ∧ shr_ (q_Ref_size wi (lN n)) fr = lN (y / 2 ^ F) ∧ q_Ref_split_we wi fr bi (lN n) = zI ((max (y / 2 ^ F) 1 : Nat) - B - F) := by
  obtain ⟨W, hW, hs⟩ := sz_lN h n hn
  have hf := fmR_f h
  have hb := fmR_b h
  have hFB := fmR_FB h
  have hy : n % 2 ^ W < 2 ^ W := Nat.mod_lt _ (Nat.two_pow_pos W)
  have h63 : n % 2 ^ W < 2 ^ 63 := by rcases hW with ⟨rfl, -⟩ | ⟨rfl, -⟩ <;> omega
  have he : n % 2 ^ W / 2 ^ F < 2 ^ 11 ∧ n % 2 ^ W / 2 ^ F ≤ 2 * B + 1 := by rcases hW with ⟨rfl, rfl⟩ | ⟨rfl, rfl⟩ <;> omega
  have hsh : shr_ (q_Ref_size wi (lN n)) fr = lN (n % 2 ^ W / 2 ^ F) := by rw [hs, hf]; exact shr_lN63 h63 (by omega)
  refine ⟨W, n % 2 ^ W, hW, rfl, he.1, he.2, hsh, ?_⟩
  unfold q_Ref_split_we
  rw [hsh, hf, hb, show (0 : Int64) = lN 0 from rfl]
  generalize n % 2 ^ W / 2 ^ F = q at *
  by_cases c : q = 0
  · subst c
    rw [if_pos rfl, show (1 : Int32) = zI 1 from rfl, ← zI_n, ← zI_n, zI_sub, zI_sub]
    rfl
  · rw [if_neg (fun z => c ((lN_inj64 (by omega) (by decide)).mp z)), lN_i, ← zI_n, ← zI_n, ← zI_n, zI_sub, zI_sub]
    congr 1; omega
theorem sp_P {wi fr bi : Int32} {F B : Nat} (h : fmR wi fr bi F B) (v : Int64) : (2200 : Int32) + q_Ref_split_we wi fr bi v = nI (wt_ (q_Ref_split_we wi fr bi v)) ∧ 1000 ≤ wt_ (q_Ref_split_we wi fr bi v) ∧ wt_ (q_Ref_split_we wi fr bi v) ≤ 3300 := by
  obtain ⟨n, hn, rfl⟩ := wb_of v
  obtain ⟨W, y, -, -, h1, h2, -, e⟩ := sp_we h n hn
  have hFB := fmR_FB h
  rw [e]
  have ht := zI_t (a := ((max (y / 2 ^ F) 1 : Nat) : Int) - B - F) ⟨by omega, by omega⟩
  unfold wt_
  rw [ht]
  refine ⟨?_, by omega, by omega⟩
  rw [show (2200 : Int32) = zI 2200 from rfl, zI_add, ← zI_n]
  congr 1; omega
