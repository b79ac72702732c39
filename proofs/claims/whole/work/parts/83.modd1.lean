/-! ODDS 1: digits -/
def cod : List Int → Int
  | [] => 0
  | d :: ds => d + 4 * cod ds
def DG (L : List Int) : Prop := ∀ d ∈ L, 0 ≤ d ∧ d ≤ 3
theorem DG.app {A B : List Int} (a : DG A) (b : DG B) : DG (A ++ B) := fun d hd => by
  rw [List.mem_append] at hd
  rcases hd with q | q
  · exact a d q
  · exact b d q
theorem DG.l {A B : List Int} (a : DG (A ++ B)) : DG A := fun d hd => a d (List.mem_append.mpr (Or.inl hd))
theorem DG.r {A B : List Int} (a : DG (A ++ B)) : DG B := fun d hd => a d (List.mem_append.mpr (Or.inr hd))
theorem cod_rng : ∀ {L : List Int}, DG L → 0 ≤ cod L ∧ cod L < 4 ^ L.length
  | [], _ => ⟨Int.le_refl _, by decide⟩
  | d :: ds, a => by
    have h1 := a d List.mem_cons_self
    have h2 := cod_rng (L := ds) (fun x hx => a x (List.mem_cons_of_mem _ hx))
    unfold cod
    rw [List.length_cons, Int.pow_succ]
    omega
theorem cod_app : ∀ {A B : List Int}, cod (A ++ B) = cod A + 4 ^ A.length * cod B
  | [], B => by show cod B = 0 + 1 * cod B; omega
  | d :: ds, B => by
    show d + 4 * cod (ds ++ B) = d + 4 * cod ds + 4 ^ (ds.length + 1) * cod B
    rw [cod_app (A := ds), Int.pow_succ, Int.mul_comm (4 ^ ds.length) 4, Int.mul_assoc, Int.mul_add]
    omega
theorem cod_dig : ∀ {L : List Int}, DG L → ∀ p : Nat, cod L / 4 ^ p % 4 = L.getD p 0
  | [], _, p => by show (0 : Int) / 4 ^ p % 4 = 0; simp
  | d :: ds, a, 0 => by
    have h1 := a d List.mem_cons_self
    show (d + 4 * cod ds) / 1 % 4 = d
    omega
  | d :: ds, a, p + 1 => by
    have h1 := a d List.mem_cons_self
    have h2 := cod_dig (L := ds) (fun x hx => a x (List.mem_cons_of_mem _ hx)) p
    show (d + 4 * cod ds) / 4 ^ (p + 1) % 4 = ds.getD p 0
    rw [Int.pow_succ, Int.mul_comm (4 ^ p) 4, ← Int.ediv_ediv_of_nonneg (by omega), show (d + 4 * cod ds) / 4 = cod ds by omega]
    exact h2
theorem bt_nat {n i : Nat} (hi : i < 32) : bt (n : Int) i = n.testBit i := by
  unfold bt
  rw [Int32.toBitVec_ofInt, BitVec.ofInt_natCast, BitVec.getLsbD_ofNat]
  simp [hi]
theorem bt_dv {x : Int} {i : Nat} (h0 : 0 ≤ x) (hi : i < 32) : bt x i = decide (x / 2 ^ i % 2 = 1) := by
  obtain ⟨n, rfl⟩ : ∃ n : Nat, x = n := ⟨x.toNat, by omega⟩
  rw [bt_nat hi, Nat.testBit_eq_decide_div_mod_eq]
  congr 1
  have : ((n : Int) / 2 ^ i % 2) = ((n / 2 ^ i % 2 : Nat) : Int) := by simp
  rw [this]
  exact propext (by omega)
theorem pw4 (p : Nat) : (2 : Int) ^ (2 * p) = 4 ^ p := by rw [Int.pow_mul]; rfl
theorem cod_bt {L : List Int} (a : DG L) {i : Nat} (hi : i < 32) : bt (cod L) i = decide (L.getD (i / 2) 0 / 2 ^ (i % 2) % 2 = 1) := by
  have h := cod_dig a (i / 2)
  have hr := cod_rng a
  rw [bt_dv hr.1 hi, ← h]
  congr 1
  have e : (2 : Int) ^ i = 4 ^ (i / 2) * 2 ^ (i % 2) := by
    rw [← pw4, ← Int.pow_add]
    congr 1
    omega
  rw [e, ← Int.ediv_ediv_of_nonneg (Int.le_of_lt (Int.pow_pos (by omega)))]
  generalize cod L / 4 ^ (i / 2) = y
  rcases (by omega : i % 2 = 0 ∨ i % 2 = 1) with q | q <;> rw [q]
  · rw [show (2 : Int) ^ 0 = 1 from rfl]
    exact propext (by omega)
  · rw [show (2 : Int) ^ 1 = 2 from rfl]
    exact propext (by omega)
theorem dg_b2 {d : Int} (h : 0 ≤ d ∧ d ≤ 3) : b2 (decide (d / 2 ^ 0 % 2 = 1)) + 2 * b2 (decide (d / 2 ^ 1 % 2 = 1)) = d := by
  rcases (by omega : d = 0 ∨ d = 1 ∨ d = 2 ∨ d = 3) with q | q | q | q <;> subst q <;> decide
theorem DG.gd {L : List Int} (a : DG L) (p : Nat) : 0 ≤ L.getD p 0 ∧ L.getD p 0 ≤ 3 := by
  rcases Nat.lt_or_ge p L.length with q | q
  · exact a _ (gd_mem q)
  · rw [List.getD_eq_getElem?_getD, List.getElem?_eq_none q]
    decide
theorem bound_cod {L : List Int} (a : DG L) {x : Nat} (hx : x < 3) : st_bound (cod L) x = L.getD x 0 := by
  rw [bound_bt hx, cod_bt a (by omega), cod_bt a (by omega), show 2 * x / 2 = x by omega, show (2 * x + 1) / 2 = x by omega, show 2 * x % 2 = 0 by omega, show (2 * x + 1) % 2 = 1 by omega]
  exact dg_b2 (a.gd x)
theorem mpk_cod {L : List Int} (a : DG L) {t : Nat} (ht : t < 6) : mpk (cod L) t = L.getD (3 + t) 0 := by
  rw [mpk_bt ht, cod_bt a (by omega), cod_bt a (by omega), show (6 + 2 * t) / 2 = 3 + t by omega, show (7 + 2 * t) / 2 = 3 + t by omega, show (6 + 2 * t) % 2 = 0 by omega, show (7 + 2 * t) % 2 = 1 by omega]
  exact dg_b2 (a.gd (3 + t))
theorem ipow_le {b n m : Nat} (hb : 0 < b) (h : n ≤ m) : ((b : Int)) ^ n ≤ (b : Int) ^ m := by
  rw [← Int.natCast_pow, ← Int.natCast_pow]
  exact Int.ofNat_le.mpr (Nat.pow_le_pow_right hb h)
theorem cod_in {L : List Int} (a : DG L) (hl : L.length ≤ 9) : inR (cod L) := by
  have h := cod_rng a
  have : (4 : Int) ^ L.length ≤ 4 ^ 9 := ipow_le (b := 4) (by omega) hl
  have e : (4 : Int) ^ 9 = 262144 := by decide
  rw [e] at this
  unfold inR
  omega
theorem gd_mid {A B : List Int} {d : Int} {p : Nat} : (A ++ d :: B).getD p 0 = if p = A.length then d else if p < A.length then A.getD p 0 else B.getD (p - A.length - 1) 0 := by
  by_cases q : p = A.length
  · rw [if_pos q, q, List.getD_eq_getElem?_getD, List.getElem?_append_right (Nat.le_refl _)]
    simp
  · rw [if_neg q]
    by_cases q1 : p < A.length
    · rw [if_pos q1, gd_al q1]
    · rw [if_neg q1, List.getD_eq_getElem?_getD, List.getElem?_append_right (by omega), List.getD_eq_getElem?_getD]
      obtain ⟨m, hm⟩ : ∃ m, p - A.length = m + 1 := ⟨p - A.length - 1, by omega⟩
      rw [hm]
      rfl
theorem cod_clr {A B : List Int} {d : Int} (a : DG (A ++ d :: B)) (hA : A.length < 3) (hl : (A ++ d :: B).length ≤ 9) : am_and (cod (A ++ d :: B)) (am_xor (am_shl 3 (wr (2 * (A.length : Int)))) (-1)) = cod (A ++ 0 :: B) := by
  have a0 : DG (A ++ 0 :: B) := a.l.app (fun x hx => by
    rcases List.mem_cons.mp hx with q | q
    · rw [q]; decide
    · exact a.r x (List.mem_cons_of_mem _ q))
  have z : ∀ x : Fin 3, am_shl 0 (wr (2 * (x.val : Int))) = 0 := by decide +kernel
  have e : am_and (cod (A ++ d :: B)) (am_xor (am_shl 3 (wr (2 * (A.length : Int)))) (-1)) = st_bind (cod (A ++ d :: B)) A.length (0 : Nat) := by
    unfold st_bind
    have := z ⟨A.length, hA⟩
    rw [show (((0 : Nat) : Int)) = 0 from rfl, this, or_0 (and_in _ _)]
  rw [e]
  refine bt_ext (or_in _ _) (cod_in a0 (by simpa using hl)) (fun i hi => ?_)
  rw [bt_bind hA (by omega) hi, cod_bt a0 hi, cod_bt a hi, gd_mid, gd_mid]
  by_cases q : i / 2 = A.length
  · rw [if_pos q, if_pos q]
    rcases (by omega : i = 2 * A.length ∨ i = 2 * A.length + 1) with r | r
    · rw [if_pos r]; simp
    · rw [if_neg (by omega), if_pos r]; simp
  · rw [if_neg q, if_neg q, if_neg (by omega), if_neg (by omega)]
theorem shl_4 : ∀ p : Fin 9, am_shl 1 (2 * (p.val : Int)) = 4 ^ p.val := by decide +kernel
theorem cod_or {A : List Int} {g : Int} (a : DG A) (hg : 0 ≤ g ∧ g ≤ 3) (hA : A.length ≤ 8) : am_or (cod A) (am_shl g ((2 * A.length : Nat) : Int)) = cod (A ++ [g]) := by
  have a0 : DG (A ++ [g]) := a.app (fun x hx => by rw [List.mem_singleton.mp hx]; exact hg)
  refine bt_ext (or_in _ _) (cod_in a0 (by simp; omega)) (fun i hi => ?_)
  rw [bt_or, bt_shl (by omega) hi, cod_bt a hi, cod_bt a0 hi, gd_mid]
  by_cases q : i / 2 = A.length
  · rw [if_pos q, bt_dv hg.1 (by omega)]
    have e0 : A.getD (i / 2) 0 = 0 := by rw [List.getD_eq_getElem?_getD, List.getElem?_eq_none (by omega)]; rfl
    rw [e0, show i - 2 * A.length = i % 2 by omega]
    have : ¬ i < 2 * A.length := by omega
    simp [this]
  · rw [if_neg q]
    by_cases q1 : i / 2 < A.length
    · rw [if_pos q1]
      have : i < 2 * A.length := by omega
      simp [this]
    · rw [if_neg q1]
      have e0 : A.getD (i / 2) 0 = 0 := by rw [List.getD_eq_getElem?_getD, List.getElem?_eq_none (by omega)]; rfl
      have e1 : ([] : List Int).getD (i / 2 - A.length - 1) 0 = 0 := by simp
      rw [e0, e1, bt_dv hg.1 (by omega)]
      have e2 : g / 2 ^ (i - 2 * A.length) = 0 := by
        refine Int.ediv_eq_zero_of_lt hg.1 ?_
        have : (2 : Int) ^ 2 ≤ 2 ^ (i - 2 * A.length) := ipow_le (b := 2) (by omega) (by omega)
        have e : (2 : Int) ^ 2 = 4 := rfl
        omega
      rw [e2]
      simp
/-! ODDS 2: all throws, one behind another -/
def wd (r : Int × Int) : Nat := (r.2 - r.1 + 1).toNat
def VR (R : List (Int × Int)) : Prop := ∀ r ∈ R, (0 ≤ r.1 ∧ r.2 ≤ 3) ∧ (r.2 = r.1 ∨ r.2 = r.1 + 1 ∨ r.2 = r.1 + 2)
def bx : List (Int × Int) → Nat
  | [] => 1
  | r :: R => wd r * bx R
def enm : List (Int × Int) → Nat → List Int
  | [], _ => []
  | r :: R, i => (r.1 + (i % wd r : Nat)) :: enm R (i / wd r)
def od : List (Int × Int) → List Int → Option (List Int)
  | [], _ => none
  | _ :: _, [] => none
  | r :: R, d :: ds => if d < r.2 then some ((d + 1) :: ds) else (od R ds).map (fun z => r.1 :: z)
theorem VR.c {r : Int × Int} {R : List (Int × Int)} (a : VR (r :: R)) : VR R := fun x hx => a x (List.mem_cons_of_mem _ hx)
theorem wd_cs {r : Int × Int} {R : List (Int × Int)} (a : VR (r :: R)) : (wd r = 1 ∧ r.2 = r.1) ∨ (wd r = 2 ∧ r.2 = r.1 + 1) ∨ (wd r = 3 ∧ r.2 = r.1 + 2) := by
  have := a r List.mem_cons_self
  unfold wd
  omega
theorem bx_pos : ∀ {R : List (Int × Int)}, VR R → 1 ≤ bx R
  | [], _ => Nat.le_refl _
  | r :: R, a => by
    have h1 := bx_pos a.c
    unfold bx
    rcases wd_cs a with ⟨e, _⟩ | ⟨e, _⟩ | ⟨e, _⟩ <;> rw [e] <;> omega
theorem enm_len : ∀ {R : List (Int × Int)} {i : Nat}, (enm R i).length = R.length
  | [], _ => rfl
  | r :: R, i => by
    show (enm R (i / wd r)).length + 1 = R.length + 1
    rw [enm_len]
theorem enm_DG : ∀ {R : List (Int × Int)} {i : Nat}, VR R → DG (enm R i)
  | [], _, _ => fun d hd => absurd hd (by simp [enm])
  | r :: R, i, a => fun d hd => by
    rcases List.mem_cons.mp hd with q | q
    · have h1 := (a r List.mem_cons_self).1
      rw [q]
      rcases wd_cs a with ⟨e, e2⟩ | ⟨e, e2⟩ | ⟨e, e2⟩ <;> rw [e] <;> omega
    · exact enm_DG a.c d q
theorem od_enm : ∀ {R : List (Int × Int)}, VR R → ∀ {i : Nat}, i < bx R → od R (enm R i) = if i + 1 < bx R then some (enm R (i + 1)) else none
  | [], _, i, hi => by
    have : i < 1 := hi
    rw [if_neg (by show ¬ i + 1 < 1; omega)]
    rfl
  | r :: R, a, i, hi => by
    have hi : i < wd r * bx R := hi
    have hp := bx_pos a.c
    show (if (r.1 + (i % wd r : Nat)) < r.2 then some ((r.1 + (i % wd r : Nat) + 1) :: enm R (i / wd r)) else (od R (enm R (i / wd r))).map (fun z => r.1 :: z)) = if i + 1 < wd r * bx R then some ((r.1 + ((i + 1) % wd r : Nat)) :: enm R ((i + 1) / wd r)) else none
    have hw : i / wd r < bx R := by
      rcases wd_cs a with ⟨e, e2⟩ | ⟨e, e2⟩ | ⟨e, e2⟩ <;> rw [e] at hi ⊢ <;> omega
    have ih := od_enm a.c hw
    by_cases q : (r.1 + (i % wd r : Nat)) < r.2
    · rw [if_pos q]
      have h1 : i + 1 < wd r * bx R ∧ (i + 1) / wd r = i / wd r ∧ (i + 1) % wd r = i % wd r + 1 := by
        rcases wd_cs a with ⟨e, e2⟩ | ⟨e, e2⟩ | ⟨e, e2⟩ <;> rw [e] at hi hw q ⊢ <;> omega
      rw [if_pos h1.1, h1.2.1, h1.2.2]
      congr 2
      omega
    · rw [if_neg q, ih]
      have h1 : (i + 1 < wd r * bx R ↔ i / wd r + 1 < bx R) ∧ (i + 1) / wd r = i / wd r + 1 ∧ (i + 1) % wd r = 0 := by
        rcases wd_cs a with ⟨e, e2⟩ | ⟨e, e2⟩ | ⟨e, e2⟩ <;> rw [e] at hi hw q ⊢ <;> omega
      by_cases z : i / wd r + 1 < bx R
      · rw [if_pos z, if_pos (h1.1.mpr z), h1.2.1, h1.2.2]
        simp
      · rw [if_neg z, if_neg (fun y => z (h1.1.mp y))]
        rfl
