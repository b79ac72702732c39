/-! BITS of stands -/
def bt (x : Int) (i : Nat) : Bool := (Int32.ofInt x).toBitVec.getLsbD i
theorem bt_and {x y : Int} {i : Nat} : bt (am_and x y) i = (bt x i && bt y i) := by
  unfold bt am_and
  rw [Int32.ofInt_toInt, Int32.toBitVec_and, BitVec.getLsbD_and]
theorem bt_or {x y : Int} {i : Nat} : bt (am_or x y) i = (bt x i || bt y i) := by
  unfold bt am_or
  rw [Int32.ofInt_toInt, Int32.toBitVec_or, BitVec.getLsbD_or]
theorem bt_sh : ∀ c : Fin 32, (Int32.ofInt ((c.val : Nat) : Int) &&& 31).toBitVec.smod 32 = BitVec.ofNat 32 c.val := by decide +kernel
theorem bt_shl {x : Int} {c i : Nat} (hc : c < 32) (hi : i < 32) : bt (am_shl x c) i = (!decide (i < c) && bt x (i - c)) := by
  unfold bt am_shl
  rw [Int32.ofInt_toInt, Int32.toBitVec_shiftLeft, bt_sh ⟨c, hc⟩, BitVec.shiftLeft_eq', BitVec.getLsbD_shiftLeft, BitVec.toNat_ofNat, Nat.mod_eq_of_lt (by omega)]
  simp [hi]
theorem bt_shr {x : Int} {c i : Nat} (hi : c + i < 32) : bt (am_shr x c) i = bt x (c + i) := by
  unfold bt am_shr
  rw [Int32.ofInt_toInt, Int32.toBitVec_shiftRight, bt_sh ⟨c, by omega⟩, BitVec.sshiftRight_eq', BitVec.getLsbD_sshiftRight, BitVec.toNat_ofNat, Nat.mod_eq_of_lt (by omega), if_pos hi]
  simp; omega
theorem am_and1 (x : Int) : 0 ≤ am_and x 1 ∧ am_and x 1 ≤ 1 := by
  unfold am_and
  obtain ⟨j, hj, e⟩ := pk_andE (Int32.ofInt x) (m := Int32.ofInt 1) 1 (by decide)
  rw [e, nI_toInt (by omega)]
  omega
def b2 (b : Bool) : Int := if b then 1 else 0
theorem bt_c1 : bt 1 0 = true := by decide
theorem bt_c30 : bt 3 0 = true := by decide
theorem bt_c31 : bt 3 1 = true := by decide
theorem and1_bt (x : Int) : am_and x 1 = b2 (bt x 0) := by
  have h := am_and1 x
  have e : bt (am_and x 1) 0 = bt x 0 := by rw [bt_and, bt_c1, Bool.and_true]
  rw [← e]
  have : am_and x 1 = 0 ∨ am_and x 1 = 1 := by omega
  rcases this with q | q <;> rw [q] <;> decide
theorem and3_bt (x : Int) : am_and x 3 = b2 (bt x 0) + 2 * b2 (bt x 1) := by
  have h := am_and3 x
  have e : bt (am_and x 3) 0 = bt x 0 := by rw [bt_and, bt_c30, Bool.and_true]
  have e1 : bt (am_and x 3) 1 = bt x 1 := by rw [bt_and, bt_c31, Bool.and_true]
  rw [← e, ← e1]
  have : am_and x 3 = 0 ∨ am_and x 3 = 1 ∨ am_and x 3 = 2 ∨ am_and x 3 = 3 := by omega
  rcases this with q | q | q | q <;> rw [q] <;> decide
theorem bound_bt {s : Int} {x : Nat} (hx : x < 3) : st_bound s x = b2 (bt s (2 * x)) + 2 * b2 (bt s (2 * x + 1)) := by
  unfold st_bound
  rw [wr_ok (by omega) (by omega), show (2 * (x : Int)) = ((2 * x : Nat) : Int) by omega, and3_bt, bt_shr (by omega), bt_shr (by omega)]
  rfl
theorem bt_63 : ∀ i : Fin 32, bt 63 i.val = decide (i.val < 6) := by decide +kernel
theorem picked_bt {s : Int} {t : Nat} (ht : t < 6) : am_and (am_shr (st_picked s) t) 1 = b2 (bt s (6 + t)) := by
  unfold st_picked
  rw [and1_bt, bt_shr (by omega), bt_and, bt_63 ⟨t + 0, by omega⟩, show (6 : Int) = ((6 : Nat) : Int) from rfl, bt_shr (by omega)]
  simp [ht]
theorem second_bt {s : Int} {t : Nat} (ht : t < 6) : am_and (am_shr (st_second s) t) 1 = b2 (bt s (12 + t)) := by
  unfold st_second
  rw [and1_bt, bt_shr (by omega), bt_and, bt_63 ⟨t + 0, by omega⟩, show (12 : Int) = ((12 : Nat) : Int) from rfl, bt_shr (by omega)]
  simp [ht]
theorem b2_0 {b : Bool} : b2 b = 0 ↔ b = false := by cases b <;> decide
theorem cpk_bt {s : Int} {t : Nat} (ht : t < 6) : cpk s t = if bt s (6 + t) then (if bt s (12 + t) then 2 else 1) else 0 := by
  unfold cpk
  rw [picked_bt ht, second_bt ht]
  cases bt s (6 + t) <;> cases bt s (12 + t) <;> decide
theorem bt_bind {s : Int} {x v i : Nat} (hx : x < 3) (hv : v < 4) (hi : i < 32) : bt (st_bind s x v) i = if i = 2 * x then decide (v % 2 = 1) else if i = 2 * x + 1 then decide (2 ≤ v) else bt s i := by
  have k1 : ∀ (x : Fin 3) (i : Fin 32), bt (am_xor (am_shl 3 (wr (2 * (x.val : Int)))) (-1)) i.val = !(decide (i.val = 2 * x.val) || decide (i.val = 2 * x.val + 1)) := by decide +kernel
  have k2 : ∀ (x : Fin 3) (v : Fin 4) (i : Fin 32), bt (am_shl (v.val : Int) (wr (2 * (x.val : Int)))) i.val = if i.val = 2 * x.val then decide (v.val % 2 = 1) else if i.val = 2 * x.val + 1 then decide (2 ≤ v.val) else false := by decide +kernel
  unfold st_bind
  rw [bt_or, bt_and, k1 ⟨x, hx⟩ ⟨i, hi⟩, k2 ⟨x, hx⟩ ⟨v, hv⟩ ⟨i, hi⟩]
  dsimp only
  by_cases q : i = 2 * x
  · simp [q]
  · by_cases q1 : i = 2 * x + 1
    · simp [q1]
    · simp [q, q1]
theorem bt_pick {s : Int} {t z i : Nat} (ht : t < 6) (hz : z < 2) (hi : i < 32) : bt (st_pick s t z) i = (bt s i || decide (i = 6 + t) || decide (i = 12 + t ∧ z = 1)) := by
  have k1 : ∀ (t : Fin 6) (i : Fin 32), bt (am_shl 1 (wr (6 + (t.val : Int)))) i.val = decide (i.val = 6 + t.val) := by decide +kernel
  have k2 : ∀ (t : Fin 6) (z : Fin 2) (i : Fin 32), bt (am_shl (z.val : Int) (wr (12 + (t.val : Int)))) i.val = decide (i.val = 12 + t.val ∧ z.val = 1) := by decide +kernel
  unfold st_pick
  rw [bt_or, bt_or, k1 ⟨t, ht⟩ ⟨i, hi⟩, k2 ⟨t, ht⟩ ⟨z, hz⟩ ⟨i, hi⟩]
theorem bound_bind {s : Int} {x v y : Nat} (hx : x < 3) (hv : v < 4) (hy : y < 3) : st_bound (st_bind s x v) y = if y = x then (v : Int) else st_bound s y := by
  rw [bound_bt hy, bt_bind hx hv (by omega), bt_bind hx hv (by omega)]
  by_cases q : y = x
  · subst q
    have : v = 0 ∨ v = 1 ∨ v = 2 ∨ v = 3 := by omega
    rcases this with q | q | q | q <;> subst q <;> simp [b2]
  · rw [if_neg (by omega), if_neg (by omega), if_neg (by omega), if_neg (by omega), if_neg q, bound_bt hy]
theorem cpk_bind {s : Int} {x v t : Nat} (hx : x < 3) (hv : v < 4) (ht : t < 6) : cpk (st_bind s x v) t = cpk s t := by
  rw [cpk_bt ht, bt_bind hx hv (by omega), bt_bind hx hv (by omega), cpk_bt ht]
  simp [show ¬ 6 + t = 2 * x by omega, show ¬ 6 + t = 2 * x + 1 by omega, show ¬ 12 + t = 2 * x by omega, show ¬ 12 + t = 2 * x + 1 by omega]
theorem bound_pick {s : Int} {t z y : Nat} (ht : t < 6) (hz : z < 2) (hy : y < 3) : st_bound (st_pick s t z) y = st_bound s y := by
  rw [bound_bt hy, bt_pick ht hz (by omega), bt_pick ht hz (by omega), bound_bt hy]
  simp [show ¬ 2 * y = 6 + t by omega, show ¬ 2 * y = 12 + t by omega, show ¬ 2 * y + 1 = 6 + t by omega, show ¬ 2 * y + 1 = 12 + t by omega]
theorem cpk_pick {s : Int} {t z j : Nat} (ht : t < 6) (hz : z < 2) (hj : j < 6) (h0 : bt s (12 + t) = false) : cpk (st_pick s t z) j = if j = t then ((z + 1 : Nat) : Int) else cpk s j := by
  rw [cpk_bt hj, bt_pick ht hz (by omega), bt_pick ht hz (by omega), cpk_bt hj]
  by_cases q : j = t
  · subst q
    have : z = 0 ∨ z = 1 := by omega
    rcases this with q | q <;> subst q <;> simp [h0]
  · simp [q, show ¬ 12 + j = 6 + t by omega, show ¬ 6 + j = 12 + t by omega]
