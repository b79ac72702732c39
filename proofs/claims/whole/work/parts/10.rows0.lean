/-! RUNNING: the heads of loops, and one row an instruction -/
def am_hdT : List (List Nat) := [[], [], [], [], [24], [], [42], [3], [], [], [4], [4], [4], [5], [5], [21], [], [17], [], [], [], [], [], [], [], [], [], [], [], [], [], [38], [62], [], [], [], [2], [], [2], [], [30, 56, 83], [12], [10, 49], [], [], [], [], [], [4], [5], [4], [4], [14], [], [], [], [], [], [], [], [], [], [], [], [], [], [], [], [28], [28], [65, 74], [], [], [], [], [], [], [], [], [], [], [], [], [], [], [], [], [4], [2], [], [], [2], [], [3], [], [], [], [], [], [], [], [], [], [], [], [], [], [], [], [], [95, 155, 185, 225], [17], [139], [153], [], [], [], [], [], [], [24], [], [], [], [], [], [], [2], [], [], [], [4], [], [], [37, 101], [], [4], [], [], [], [2], [103, 154, 228], [], [], [], [2], [22], [22], [6], [4, 54], [36, 83, 117], [57], [], [], [], [166], [], [], [], [], [], [], [46], [], [], [18]]
def am_hd (m pc : Nat) : Bool := (am_hdT.getD m []).contains pc
def am_rn (m lim : Nat) (call : am_Q) (K : am_K) : Nat → am_X
  | 0 => fun pc al st n h => am_W m lim call K pc al st n h
  | k + 1 => fun pc al st n h => if am_hd m pc = true then am_W m lim call K pc al st n h else am_F m lim call K (am_rn m lim call K k) (am_W m lim call K) pc al st n h
section
variable {m lim : Nat} {call : am_Q} {K : am_K} {pc : Nat} {al : am_L} {st : List am_V} {n : Nat} {h : am_H}
theorem am_rn_W (hc : am_cm call) : ∀ (k : Nat) (pc : Nat) (al : am_L) (st : List am_V) (n : Nat) (h : am_H), am_rn m lim call K k pc al st n h → am_W m lim call K pc al st n h
  | 0, _, _, _, _, _, a => a
  | k + 1, pc, al, st, n, h, a => by
    unfold am_rn at a
    split at a
    · exact a
    · exact am_W.fold hc (am_F_mono hc (fun _ _ _ b => b) (am_rn_W hc k) (fun _ _ _ _ _ b => b) a)
/-- run from a place that is no head -/
theorem am_run {d : Nat} (k : Nat) (a : am_rn m lim (am_M d) K k pc al st n h) : am_W m lim (am_M d) K pc al st n h := am_rn_W (am_M_cm d) k pc al st n h a
/-- run from a head -/
theorem am_runH {d : Nat} (k : Nat) (a : am_F m lim (am_M d) K (am_rn m lim (am_M d) K k) (am_W m lim (am_M d) K) pc al st n h) : am_W m lim (am_M d) K pc al st n h :=
  am_W.fold (am_M_cm d) (am_F_mono (am_M_cm d) (fun _ _ _ b => b) (am_rn_W (am_M_cm d) k) (fun _ _ _ _ _ b => b) a)
theorem am_rnI {k : Nat} {i : Instr} (hd : am_dc m pc = some i) (hh : am_hd m pc = false) : am_rn m lim call K (k + 1) pc al st n h = am_stp m lim call K (am_rn m lim call K k) (am_W m lim call K) pc al st n h i := by
  show (if am_hd m pc = true then _ else _) = _
  rw [hh, if_neg (by decide)]
  unfold am_F
  rw [hd]
theorem am_rnH {k : Nat} (hh : am_hd m pc = true) : am_rn m lim call K (k + 1) pc al st n h = am_W m lim call K pc al st n h := if_pos hh
theorem am_FI {X Y : am_X} {i : Instr} (hd : am_dc m pc = some i) : am_F m lim call K X Y pc al st n h = am_stp m lim call K X Y pc al st n h i := by
  unfold am_F
  rw [hd]
end
