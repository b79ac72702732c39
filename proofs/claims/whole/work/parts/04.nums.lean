/-! numbers: integers against the machine's -/
def inR (x : Int) : Prop := -2147483648 ≤ x ∧ x ≤ 2147483647
def inL (x : Int) : Prop := -9223372036854775808 ≤ x ∧ x ≤ 9223372036854775807
theorem wr_in (x : Int) : inR (wr x) := by unfold inR wr; omega
theorem wrL_in (x : Int) : inL (wrL x) := by unfold inL wrL; omega
theorem wr_id {x : Int} (h : inR x) : wr x = x := by unfold inR at h; unfold wr; omega
theorem wrL_id {x : Int} (h : inL x) : wrL x = x := by unfold inL at h; unfold wrL; omega
theorem sd_b32 (x : Int) : x.bmod (2 ^ 32) = wr x := by
  unfold Int.bmod wr
  dsimp only
  split <;> omega
theorem sd_b64 (x : Int) : x.bmod (2 ^ 64) = wrL x := by
  unfold Int.bmod wrL
  dsimp only
  split <;> omega
theorem sd_toI (x : Int) : (Int32.ofInt x).toInt = wr x := by rw [Int32.toInt_ofInt]; exact sd_b32 x
theorem sd_toL (x : Int) : (Int64.ofInt x).toInt = wrL x := by rw [Int64.toInt_ofInt]; exact sd_b64 x
theorem sd_tI {x : Int} (h : inR x) : (Int32.ofInt x).toInt = x := by rw [sd_toI, wr_id h]
theorem sd_tL {x : Int} (h : inL x) : (Int64.ofInt x).toInt = x := by rw [sd_toL, wrL_id h]
theorem wr_wr (x : Int) : wr (wr x) = wr x := wr_id (wr_in x)
theorem sd_oI (x : Int) : Int32.ofInt (wr x) = Int32.ofInt x := Int32.toInt_inj.mp (by rw [sd_toI, sd_toI, wr_wr])
theorem sd_oL (x : Int) : Int64.ofInt (wrL x) = Int64.ofInt x := Int64.toInt_inj.mp (by rw [sd_toL, sd_toL, wrL_id (wrL_in x)])
theorem sd_I_in (x : Int32) : inR x.toInt := ⟨Int32.le_toInt x, by have := Int32.toInt_lt x; omega⟩
theorem sd_L_in (x : Int64) : inL x.toInt := ⟨Int64.le_toInt x, by have := Int64.toInt_lt x; omega⟩
theorem sd_add (a b : Int) : Int32.ofInt a + Int32.ofInt b = Int32.ofInt (wr (a + b)) := by rw [sd_oI, Int32.ofInt_add]
theorem sd_sub (a b : Int) : Int32.ofInt a - Int32.ofInt b = Int32.ofInt (wr (a - b)) := by rw [sd_oI, Int32.ofInt_sub]
theorem sd_mul (a b : Int) : Int32.ofInt a * Int32.ofInt b = Int32.ofInt (wr (a * b)) := by rw [sd_oI, Int32.ofInt_mul]
theorem sd_div {a b : Int} (ha : inR a) (hb : inR b) : Int32.ofInt a / Int32.ofInt b = Int32.ofInt (wr (a.tdiv b)) := by
  refine Int32.toInt_inj.mp ?_
  rw [Int32.toInt_div, sd_tI ha, sd_tI hb, sd_b32, sd_tI (wr_in _)]
theorem sd_ldiv {a b : Int} (ha : inL a) (hb : inL b) : Int64.ofInt a / Int64.ofInt b = Int64.ofInt (wrL (a.tdiv b)) := by
  refine Int64.toInt_inj.mp ?_
  rw [Int64.toInt_div, sd_tL ha, sd_tL hb, sd_b64, sd_tL (wrL_in _)]
theorem sd_rem {a b : Int} (ha : inR a) (hb : inR b) : Int32.ofInt a - Int32.ofInt a / Int32.ofInt b * Int32.ofInt b = Int32.ofInt (a.tmod b) := by
  rw [sd_div ha hb, sd_oI, ← Int32.ofInt_mul, ← Int32.ofInt_sub, Int.tmod_def, Int.mul_comm]
theorem sd_lrem {a b : Int} (ha : inL a) (hb : inL b) : Int64.ofInt a - Int64.ofInt a / Int64.ofInt b * Int64.ofInt b = Int64.ofInt (a.tmod b) := by
  rw [sd_ldiv ha hb, sd_oL, ← Int64.ofInt_mul, ← Int64.ofInt_sub, Int.tmod_def, Int.mul_comm]
theorem sd_tmod_abs (a b : Int) : (a.tmod b).natAbs ≤ a.natAbs := by
  rw [Int.natAbs_tmod]; exact Nat.mod_le _ _
theorem sd_rem_in {a b : Int} (ha : inR a) : inR (a.tmod b) := by
  have h := sd_tmod_abs a b
  have h2 : 0 ≤ a → 0 ≤ a.tmod b := fun h => Int.tmod_nonneg b h
  have h3 : a ≤ 0 → a.tmod b ≤ 0 := fun h => by
    have h4 := Int.tmod_nonneg b (show 0 ≤ -a by omega)
    rw [Int.neg_tmod] at h4
    omega
  unfold inR at *
  omega
theorem sd_lrem_in {a b : Int} (ha : inL a) : inL (a.tmod b) := by
  have h := sd_tmod_abs a b
  have h2 : 0 ≤ a → 0 ≤ a.tmod b := fun h => Int.tmod_nonneg b h
  have h3 : a ≤ 0 → a.tmod b ≤ 0 := fun h => by
    have h4 := Int.tmod_nonneg b (show 0 ≤ -a by omega)
    rw [Int.neg_tmod] at h4
    omega
  unfold inL at *
  omega
theorem sd_lt {a b : Int} (ha : inR a) (hb : inR b) : Int32.ofInt a < Int32.ofInt b ↔ a < b := by rw [Int32.lt_iff_toInt_lt, sd_tI ha, sd_tI hb]
theorem sd_le {a b : Int} (ha : inR a) (hb : inR b) : Int32.ofInt a ≤ Int32.ofInt b ↔ a ≤ b := by rw [Int32.le_iff_toInt_le, sd_tI ha, sd_tI hb]
theorem sd_eq {a b : Int} (ha : inR a) (hb : inR b) : Int32.ofInt a = Int32.ofInt b ↔ a = b := by rw [← Int32.toInt_inj, sd_tI ha, sd_tI hb]
theorem sd_llt {a b : Int} (ha : inL a) (hb : inL b) : Int64.ofInt a < Int64.ofInt b ↔ a < b := by rw [Int64.lt_iff_toInt_lt, sd_tL ha, sd_tL hb]
theorem sd_leq {a b : Int} (ha : inL a) (hb : inL b) : Int64.ofInt a = Int64.ofInt b ↔ a = b := by rw [← Int64.toInt_inj, sd_tL ha, sd_tL hb]
theorem sd_0 : inR 0 := by unfold inR; omega
theorem sd_0L : inL 0 := by unfold inL; omega
theorem sd_z : (0 : Int32) = Int32.ofInt 0 := rfl
theorem sd_zL : (0 : Int64) = Int64.ofInt 0 := rfl
theorem sd_nat {x : Int} (h : inR x) : (Int32.ofInt x).toNatClampNeg = x.toNat := by
  show (Int32.ofInt x).toInt.toNat = x.toNat
  rw [sd_tI h]
theorem sd_vin {x : Int} {n : Nat} (h : inR x) (h0 : 0 ≤ x) (hn : x < n) : vp_in (Int32.ofInt x) n := by
  unfold vp_in
  rw [sd_nat h, sd_z, sd_lt h sd_0]
  omega
theorem sd_i2l {x : Int} (h : inR x) : (Int32.ofInt x).toInt64 = Int64.ofInt x := by
  refine Int64.toInt_inj.mp ?_
  rw [Int32.toInt_toInt64, sd_tI h, sd_tL]
  unfold inR at h; unfold inL; omega
theorem sd_inL {x : Int} (h : inR x) : inL x := by unfold inR at h; unfold inL; omega
theorem sd_b8i (x : Int) : x.bmod (2 ^ 8) = am_b8 x := by
  unfold Int.bmod am_b8
  dsimp only
  split <;> omega
theorem sd_s16i (x : Int) : x.bmod (2 ^ 16) = am_s16 x := by
  unfold Int.bmod am_s16
  dsimp only
  split <;> omega
theorem am_b8_in (x : Int) : inR (am_b8 x) := by unfold inR am_b8; omega
theorem am_s16_in (x : Int) : inR (am_s16 x) := by unfold inR am_s16; omega
theorem sd_bi (x : Int) : (Int8.ofInt x).toInt32 = Int32.ofInt (am_b8 x) := by
  refine Int32.toInt_inj.mp ?_
  rw [Int8.toInt_toInt32, Int8.toInt_ofInt, sd_b8i, sd_tI (am_b8_in x)]
theorem sd_si (x : Int) : (Int16.ofInt x).toInt32 = Int32.ofInt (am_s16 x) := by
  refine Int32.toInt_inj.mp ?_
  rw [Int16.toInt_toInt32, Int16.toInt_ofInt, sd_s16i, sd_tI (am_s16_in x)]
theorem sd_i2b {x : Int} (h : inR x) : (Int32.ofInt x).toInt8.toInt32 = Int32.ofInt (am_b8 x) := by
  refine Int32.toInt_inj.mp ?_
  rw [Int8.toInt_toInt32, Int32.toInt_toInt8, sd_b8i, sd_tI h, sd_tI (am_b8_in x)]
theorem sd_i2s {x : Int} (h : inR x) : (Int32.ofInt x).toInt16.toInt32 = Int32.ofInt (am_s16 x) := by
  refine Int32.toInt_inj.mp ?_
  rw [Int16.toInt_toInt32, Int32.toInt_toInt16, sd_s16i, sd_tI h, sd_tI (am_s16_in x)]
theorem sd_lcmp {a b : Int} (ha : inL a) (hb : inL b) : lg_cmp (Int64.ofInt a) (Int64.ofInt b) = Int32.ofInt (am_lc a b) := by
  unfold lg_cmp am_lc
  simp only [sd_llt hb ha, sd_leq ha hb, gt_iff_lt]
  split
  · rfl
  · split <;> rfl
theorem am_lc_in (a b : Int) : inR (am_lc a b) := by
  unfold am_lc inR
  split
  · omega
  · split <;> omega
