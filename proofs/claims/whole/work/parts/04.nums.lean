theorem e_o32 (x : Int) : (Int32.ofInt x).toInt = e_w32 x := by
  unfold e_w32
  exact Int32.toInt_ofInt
theorem e_o64 (x : Int) : (Int64.ofInt x).toInt = e_w64 x := by
  unfold e_w64
  exact Int64.toInt_ofInt
theorem e_add (x y : Int) : Int32.ofInt x + Int32.ofInt y = Int32.ofInt (x + y) := (Int32.ofInt_add x y).symm
theorem e_sub (x y : Int) : Int32.ofInt x - Int32.ofInt y = Int32.ofInt (x - y) := (Int32.ofInt_sub x y).symm
theorem e_mul (x y : Int) : Int32.ofInt x * Int32.ofInt y = Int32.ofInt (x * y) := (Int32.ofInt_mul x y).symm
theorem e_neg (x : Int) : -Int32.ofInt x = Int32.ofInt (-x) := (Int32.ofInt_neg x).symm
theorem e_addL (x y : Int) : Int64.ofInt x + Int64.ofInt y = Int64.ofInt (x + y) := (Int64.ofInt_add x y).symm
theorem e_subL (x y : Int) : Int64.ofInt x - Int64.ofInt y = Int64.ofInt (x - y) := (Int64.ofInt_sub x y).symm
theorem e_mulL (x y : Int) : Int64.ofInt x * Int64.ofInt y = Int64.ofInt (x * y) := (Int64.ofInt_mul x y).symm
theorem e_eq32 (x y : Int) : Int32.ofInt x = Int32.ofInt y ↔ e_w32 x = e_w32 y := by
  rw [← e_o32, ← e_o32, Int32.toInt_inj]
theorem e_eq64 (x y : Int) : Int64.ofInt x = Int64.ofInt y ↔ e_w64 x = e_w64 y := by
  rw [← e_o64, ← e_o64, Int64.toInt_inj]
theorem e_lt32 (x y : Int) : Int32.ofInt x < Int32.ofInt y ↔ e_w32 x < e_w32 y := by
  rw [← e_o32, ← e_o32, Int32.lt_iff_toInt_lt]
theorem e_le32 (x y : Int) : Int32.ofInt x ≤ Int32.ofInt y ↔ e_w32 x ≤ e_w32 y := by
  rw [← e_o32, ← e_o32, Int32.le_iff_toInt_le]
theorem e_lt64 (x y : Int) : Int64.ofInt x < Int64.ofInt y ↔ e_w64 x < e_w64 y := by
  rw [← e_o64, ← e_o64, Int64.lt_iff_toInt_lt]
theorem e_of (v : Int32) : Int32.ofInt v.toInt = v := Int32.ofInt_toInt v
theorem e_ofL (v : Int64) : Int64.ofInt v.toInt = v := Int64.ofInt_toInt v
theorem e_w32i (x : Int) : Int32.ofInt (e_w32 x) = Int32.ofInt x := by rw [← e_o32, e_of]
theorem e_w64i (x : Int) : Int64.ofInt (e_w64 x) = Int64.ofInt x := by rw [← e_o64, e_ofL]
theorem e_r32 (x : Int) : -2147483648 ≤ e_w32 x ∧ e_w32 x < 2147483648 := by
  unfold e_w32
  rw [Int.bmod_def]
  split <;> omega
theorem e_r64 (x : Int) : -9223372036854775808 ≤ e_w64 x ∧ e_w64 x < 9223372036854775808 := by
  unfold e_w64
  rw [Int.bmod_def]
  split <;> omega
theorem e_id32 {x : Int} (h : -2147483648 ≤ x) (h2 : x < 2147483648) : e_w32 x = x := by
  unfold e_w32
  rw [Int.bmod_def]
  split <;> omega
theorem e_id64 {x : Int} (h : -9223372036854775808 ≤ x) (h2 : x < 9223372036854775808) : e_w64 x = x := by
  unfold e_w64
  rw [Int.bmod_def]
  split <;> omega
theorem e_z32 : (0 : Int32) = Int32.ofInt 0 := rfl
theorem e_clamp (x : Int) : (Int32.ofInt x).toNatClampNeg = (e_w32 x).toNat := by
  rw [← e_o32]
  rfl
theorem e_in {x : Int} {n : Nat} (h : 0 ≤ e_w32 x) (h2 : e_w32 x < n) : vp_in (Int32.ofInt x) n := by
  rw [vp_in_iff, e_o32]
  exact ⟨h, h2⟩
theorem e_nneg {x : Int} (h : 0 ≤ e_w32 x) : ¬ Int32.ofInt x < 0 := by
  rw [e_z32, e_lt32]
  have : e_w32 0 = 0 := by decide
  omega
theorem e_div (x y : Int) : Int32.ofInt x / Int32.ofInt y = Int32.ofInt ((e_w32 x).tdiv (e_w32 y)) := by
  rw [← e_of (Int32.ofInt x / Int32.ofInt y), Int32.toInt_div, e_o32, e_o32]
  exact e_w32i _
theorem e_rem (x y : Int) : Int32.ofInt x - Int32.ofInt x / Int32.ofInt y * Int32.ofInt y = Int32.ofInt ((e_w32 x).tmod (e_w32 y)) := by
  rw [← e_of (Int32.ofInt x - _), rem_toInt, e_o32, e_o32]
theorem e_divL (x y : Int) : Int64.ofInt x / Int64.ofInt y = Int64.ofInt ((e_w64 x).tdiv (e_w64 y)) := by
  rw [← e_ofL (Int64.ofInt x / Int64.ofInt y), Int64.toInt_div, e_o64, e_o64]
  exact e_w64i _
theorem e_i2l (x : Int) : (Int32.ofInt x).toInt64 = Int64.ofInt (e_w32 x) := by
  rw [← e_ofL ((Int32.ofInt x).toInt64), Int32.toInt_toInt64, e_o32]
theorem e_l2i (x : Int) : (Int64.ofInt x).toInt32 = Int32.ofInt x := by
  rw [← e_of ((Int64.ofInt x).toInt32), Int64.toInt_toInt32, e_o64, ← e_w32i x]
  congr 1
  unfold e_w32 e_w64
  exact Int.bmod_bmod_of_dvd (by decide)
theorem e_i2b (x : Int) : (Int32.ofInt x).toInt8.toInt32 = Int32.ofInt (x.bmod 256) := by
  rw [← e_of ((Int32.ofInt x).toInt8.toInt32), Int8.toInt_toInt32, Int32.toInt_toInt8, e_o32]
  congr 1
  unfold e_w32
  exact Int.bmod_bmod_of_dvd (by decide)
theorem e_z64 : (0 : Int64) = Int64.ofInt 0 := rfl
theorem e_lcmp (x y : Int) : lg_cmp (Int64.ofInt x) (Int64.ofInt y) = Int32.ofInt (if e_w64 y < e_w64 x then 1 else if e_w64 x = e_w64 y then 0 else -1) := by
  unfold lg_cmp
  simp only [gt_iff_lt, e_lt64, e_eq64]
  split <;> (try split) <;> rfl
theorem e_remL (x y : Int) : Int64.ofInt x - Int64.ofInt x / Int64.ofInt y * Int64.ofInt y = Int64.ofInt ((e_w64 x).tmod (e_w64 y)) := by
  have h1 : Int64.ofInt x - Int64.ofInt ((e_w64 x).tdiv (e_w64 y)) * Int64.ofInt y = Int64.ofInt (e_w64 x) - Int64.ofInt ((e_w64 x).tdiv (e_w64 y)) * Int64.ofInt (e_w64 y) := by rw [e_w64i, e_w64i]
  rw [e_divL, h1, e_mulL, e_subL, Int.tmod_def, Int.mul_comm]
theorem e_tn (x : Int) : (Int32.ofInt x).toBitVec.toNat = (x % 4294967296).toNat := by
  show (BitVec.ofInt 32 x).toNat = _
  rw [BitVec.toNat_ofInt]
  rfl
theorem e_tnL (x : Int) : (Int64.ofInt x).toBitVec.toNat = (x % 18446744073709551616).toNat := by
  show (BitVec.ofInt 64 x).toNat = _
  rw [BitVec.toNat_ofInt]
  rfl
theorem e_inj {a b : Int32} (h : a.toBitVec.toNat = b.toBitVec.toNat) : a = b := Int32.toBitVec_inj.mp (BitVec.eq_of_toNat_eq h)
theorem e_injL {a b : Int64} (h : a.toBitVec.toNat = b.toBitVec.toNat) : a = b := Int64.toBitVec_inj.mp (BitVec.eq_of_toNat_eq h)
theorem e_i2c (x : Int) : ((Int32.ofInt x).toUInt32 % 65536).toInt32 = Int32.ofInt (x % 65536) := by
  rw [pk_char]
  apply e_inj
  rw [pk_tn (by omega), e_tn, e_tn]
  omega
theorem e_sm : ∀ k : Nat, k < 32 → ((nI k &&& 31).toBitVec.smod 32).toNat = k := by decide
theorem e_smu : ∀ k : Nat, k < 32 → (((nI k).toUInt32 &&& Int32.toUInt32 31).toBitVec % 32).toNat = k := by decide
theorem e_smL : ∀ k : Nat, k < 64 → (((nI k).toInt64 &&& 63).toBitVec.smod 64).toNat = k := by decide
theorem e_nI {y : Int} (h : 0 ≤ e_w32 y) : Int32.ofInt y = nI (e_w32 y).toNat := by
  rw [← e_w32i y]
  show _ = Int32.ofInt ((e_w32 y).toNat : Int)
  congr 1
  omega
theorem e_mulmod (x P M : Int) : x * P % M = x % M * P % M := by
  rw [Int.mul_emod x P, Int.mul_emod (x % M) P, Int.emod_emod_of_dvd x (Int.dvd_refl M)]
theorem e_shl (x y : Int) (h : 0 ≤ e_w32 y) (h2 : e_w32 y < 32) : Int32.ofInt x <<< (Int32.ofInt y &&& 31) = Int32.ofInt (x * 2 ^ (e_w32 y).toNat) := by
  rw [e_nI h]
  apply e_inj
  rw [pk_shl _ _ _ (e_sm _ (by omega)), e_tn, e_tn, e_mulmod]
  have hX := Int.emod_nonneg x (show (4294967296 : Int) ≠ 0 by decide)
  generalize hXe : x % 4294967296 = X at hX ⊢
  obtain ⟨n, rfl⟩ := Int.eq_ofNat_of_zero_le hX
  rw [Int.toNat_natCast, show ((n : Int) * 2 ^ (e_w32 y).toNat) = ((n * 2 ^ (e_w32 y).toNat : Nat) : Int) by push_cast; rfl]
  generalize n * 2 ^ (e_w32 y).toNat = z
  omega
theorem e_shr (x y : Int) (h : 0 ≤ e_w32 y) (h2 : e_w32 y < 32) : Int32.ofInt x >>> (Int32.ofInt y &&& 31) = Int32.ofInt (e_w32 x / 2 ^ (e_w32 y).toNat) := by
  rw [e_nI h, ← e_of (Int32.ofInt x >>> _), pk_shr _ _ _ (e_sm _ (by omega)), e_o32, Int.shiftRight_eq_div_pow]
  congr 1
theorem e_ushr (x y : Int) (h : 0 ≤ e_w32 y) (h2 : e_w32 y < 32) : ((Int32.ofInt x).toUInt32 >>> ((Int32.ofInt y).toUInt32 &&& Int32.toUInt32 31)).toInt32 = Int32.ofInt (x % 4294967296 / 2 ^ (e_w32 y).toNat) := by
  rw [e_nI h]
  apply e_inj
  rw [pk_ushr _ _ _ (e_smu _ (by omega)), e_tn, e_tn]
  have hX := Int.emod_nonneg x (show (4294967296 : Int) ≠ 0 by decide)
  have hX2 := Int.emod_lt_of_pos x (show (0 : Int) < 4294967296 by decide)
  generalize hXe : x % 4294967296 = X at hX hX2 ⊢
  obtain ⟨n, rfl⟩ := Int.eq_ofNat_of_zero_le hX
  rw [Int.toNat_natCast, show ((n : Int) / 2 ^ (e_w32 y).toNat) = ((n / 2 ^ (e_w32 y).toNat : Nat) : Int) by push_cast; rfl]
  have : n / 2 ^ (e_w32 y).toNat ≤ n := Nat.div_le_self _ _
  generalize n / 2 ^ (e_w32 y).toNat = z at this
  omega
theorem e_lshl (x y : Int) (h : 0 ≤ e_w32 y) (h2 : e_w32 y < 64) : Int64.ofInt x <<< ((Int32.ofInt y).toInt64 &&& 63) = Int64.ofInt (x * 2 ^ (e_w32 y).toNat) := by
  rw [e_nI h]
  apply e_injL
  have h3 : (Int64.ofInt x <<< ((nI (e_w32 y).toNat).toInt64 &&& 63)).toBitVec.toNat = (Int64.ofInt x).toBitVec.toNat * 2 ^ (e_w32 y).toNat % 2 ^ 64 := by
    show ((Int64.ofInt x).toBitVec <<< (((nI (e_w32 y).toNat).toInt64 &&& 63).toBitVec.smod 64).toNat).toNat = _
    rw [e_smL _ (by omega), BitVec.toNat_shiftLeft, Nat.shiftLeft_eq]
  rw [h3, e_tnL, e_tnL, e_mulmod]
  have hX := Int.emod_nonneg x (show (18446744073709551616 : Int) ≠ 0 by decide)
  generalize hXe : x % 18446744073709551616 = X at hX ⊢
  obtain ⟨n, rfl⟩ := Int.eq_ofNat_of_zero_le hX
  rw [Int.toNat_natCast, show ((n : Int) * 2 ^ (e_w32 y).toNat) = ((n * 2 ^ (e_w32 y).toNat : Nat) : Int) by push_cast; rfl]
  generalize n * 2 ^ (e_w32 y).toNat = z
  omega
