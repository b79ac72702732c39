/-! STATE 2: more calls -/
/-- the place of answer c among the first j stands -/
def plc (e : Int → Int × Int) (L : List Int) (c : Int) : Nat → Option Nat
  | 0 => none
  | j + 1 => match plc e L c j with
    | some i => some i
    | none => if (e (L.getD j 0)).1 < 3 ∧ fo (fCt e) 0 L j = c then some j else none
theorem plc_some {e : Int → Int × Int} {L : List Int} {c : Int} : ∀ {m j : Nat}, plc e L c m = some j → j < m ∧ (e (L.getD j 0)).1 < 3 ∧ fo (fCt e) 0 L j = c
  | 0, _, h => by cases h
  | m + 1, j, h => by
    unfold plc at h
    split at h
    · next i hi =>
      cases h
      have := plc_some hi
      exact ⟨by omega, this.2⟩
    · split at h
      · next q => cases h; exact ⟨by omega, q⟩
      · cases h
theorem plc_none {e : Int → Int × Int} {L : List Int} {c : Int} : ∀ {m : Nat}, plc e L c m = none → ∀ j, j < m → (e (L.getD j 0)).1 < 3 → fo (fCt e) 0 L j ≠ c
  | 0, _, j, hj => by omega
  | m + 1, h, j, hj => by
    unfold plc at h
    split at h
    · cases h
    · next hn =>
      split at h
      · cases h
      · next q =>
        intro h1 h2
        by_cases z : j = m
        · subst z; exact q ⟨h1, h2⟩
        · exact plc_none hn j (by omega) h1 h2
theorem fCt_mo {e : Int → Int × Int} {L : List Int} {i : Nat} : ∀ k, fo (fCt e) 0 L i ≤ fo (fCt e) 0 L (i + k)
  | 0 => Int.le_refl _
  | k + 1 => by
    have := fCt_mo (e := e) (L := L) (i := i) k
    rw [show i + (k + 1) = (i + k) + 1 by omega, fo_s]
    by_cases q : (e (L.getD (i + k) 0)).1 < 3
    · rw [fCt_1 q]; omega
    · rw [fCt_0 q]; exact this
theorem fCt_lt {e : Int → Int × Int} {L : List Int} {i j : Nat} (h : i < j) (hi : (e (L.getD i 0)).1 < 3) : fo (fCt e) 0 L i < fo (fCt e) 0 L j := by
  have h1 := fCt_mo (e := e) (L := L) (i := i + 1) (j - (i + 1))
  rw [show i + 1 + (j - (i + 1)) = j by omega, fo_s, fCt_1 hi] at h1
  omega
theorem fCt_inj {e : Int → Int × Int} {L : List Int} {i j : Nat} (hi : (e (L.getD i 0)).1 < 3) (hj : (e (L.getD j 0)).1 < 3) (h : fo (fCt e) 0 L i = fo (fCt e) 0 L j) : i = j := by
  rcases Nat.lt_trichotomy i j with q | q | q
  · have := fCt_lt q hi; omega
  · exact q
  · have := fCt_lt q hj; omega
theorem plc_is {e : Int → Int × Int} {L : List Int} {c : Int} {m j : Nat} (hj : j < m) (h1 : (e (L.getD j 0)).1 < 3) (h2 : fo (fCt e) 0 L j = c) : plc e L c m = some j := by
  cases q : plc e L c m with
  | none => exact absurd h2 (plc_none q j hj h1)
  | some i =>
    have := plc_some q
    rw [fCt_inj this.2.1 h1 (by omega)]
theorem plc_no {e : Int → Int × Int} {L : List Int} {c : Int} {m : Nat} (hh : ∀ j, j < m → (e (L.getD j 0)).1 < 3 → fo (fCt e) 0 L j ≠ c) : plc e L c m = none := by
  cases q : plc e L c m with
  | none => rfl
  | some i =>
    have := plc_some q
    exact absurd this.2.2 (hh i this.1 this.2.1)
/-- of an answer's stand -/
def ansS (fns : List FnT) (tms : List TmT) (gs : List Int) (e : Int → Int × Int) (s w : Int) : Int :=
  if w = 0 then (e s).1 else if w = 1 then sm 3 (bsc gs s) + bits6 (st_picked s) else if w = 2 then prc fns tms (e s).2 else if w = 3 then (e s).2
  else if w = 4 then st_picked s else if w = 5 then st_second s else st_bound s (w - 10)
def ansR (fns : List FnT) (tms : List TmT) (gs : List Int) (t : Nat) (c w : Int) : Int :=
  match plc (evS fns tms t) (row1 fns tms gs t) c (row1 fns tms gs t).length with
  | none => -9
  | some j => ansS fns tms gs (evS fns tms t) ((row1 fns tms gs t).getD j 0) w
def op_answer (P : PS) (t c w : Int) : Int :=
  if ¬ okT P t then -1 else if c < 0 ∨ ¬ ((0 ≤ w ∧ w < 6) ∨ (0 ≤ w - 10 ∧ w - 10 < 3)) then -2 else ansR P.fns P.tms P.gs t.toNat c w
theorem ansR_nf {fns : List FnT} {tms : List TmT} {gs : List Int} {c w : Int} (hwf : WF fns tms) (hl : tms.length ≤ 6) {t : Nat} (ht : t < tms.length) : ansR (fns.map nf) tms gs t c w = ansR fns tms gs t c w := by
  unfold ansR ansS
  rw [row1_nf hwf hl ht, evS_nf hwf hl ht]
  split
  · rfl
  · rw [prc_nf hwf]
/-- days -/
def isAc (a s : Int) : Prop := (0 ≤ s ∧ s < 3 ∧ 0 ≤ a ∧ a < 4) ∨ (10 ≤ s ∧ s < 13 ∧ 1 ≤ a ∧ a ≤ 9) ∨ (s = 20 ∧ a = 0)
abbrev W3 : Type := List FnT × List TmT × List Int
def plD (c : List Int) (i : Nat) (S : W3) : Nat → Sum Nat W3
  | 0 => Sum.inr S
  | j + 1 => match plD c i S j with
    | Sum.inl x => Sum.inl x
    | Sum.inr (f, t, g) => (match actW (c.getD (i + 2 * j) 0) (c.getD (i + 2 * j + 1) 0) f t g with
      | none => Sum.inl j
      | some S' => Sum.inr S')
def tellD (S : W3) (w : Int) : Int :=
  if w = 0 then S.2.1.length else if 0 ≤ w - 10 ∧ w - 10 < 3 then S.2.2.getD (w - 10).toNat 0
  else if S.2.1.length = 0 then -9 else askR S.1 S.2.1 S.2.2 (S.2.1.length - 1) (if w = 2 then 0 else if w = 3 then 1 else 3)
def dayR (c : List Int) (i m : Nat) (S : W3) (w : Int) : Int :=
  match plD c i S m with
  | Sum.inl x => if w = 1 then (x : Int) else -100 - (x : Int)
  | Sum.inr S' => if w = 1 then -9 else tellD S' w
def areAc (c : List Int) (i m : Nat) : Prop := ∀ j, j < m → isAc (c.getD (i + 2 * j) 0) (c.getD (i + 2 * j + 1) 0)
noncomputable def op_day (P : PS) (k la i m w : Int) : Int × PS :=
  if ¬ (0 ≤ k ∧ k < 4) then (-1, P.uf 0)
  else if ¬ ((0 ≤ la ∧ la < 3) ∧ (0 ≤ m ∧ m < 21) ∧ ((0 ≤ w ∧ w < 5) ∨ (0 ≤ w - 10 ∧ w - 10 < 3))) then (-2, P.uf 0)
  else if agn P k la i (2 * m) ≠ 0 then flt P (agn P k la i (2 * m))
  else if P.fns.length = 0 then (-3, P.uf 0)
  else @ite (Int × PS) (areAc (celA P k) i.toNat m.toNat) (Classical.propDecidable _) (dayR (celA P k) i.toNat m.toNat (P.fns, P.tms, P.gs) w, P.uf 0) (-2, P.uf 0)
/-- odds -/
def oddU (fns : List FnT) (tms : List TmT) (gs : List Int) (t : Nat) (v : Int) : Int := fo (fTh gs (evS fns tms t) v) 0 (row1 fns tms gs t) (row1 fns tms gs t).length
def oddR (u w : Int) : Int := if w = 0 then u / (Int.gcd u 1728 : Int) else 1728 / (Int.gcd u 1728 : Int)
def op_odds (P : PS) (t v w : Int) : Int :=
  if ¬ (okT P t ∧ (0 ≤ v ∧ v < 4) ∧ (0 ≤ w ∧ w < 2)) then lostV else oddR (oddU P.fns P.tms P.gs t.toNat v) w
theorem oddU_nf {fns : List FnT} {tms : List TmT} {gs : List Int} {v : Int} (hwf : WF fns tms) (hl : tms.length ≤ 6) {t : Nat} (ht : t < tms.length) : oddU (fns.map nf) tms gs t v = oddU fns tms gs t v := by
  unfold oddU
  rw [row1_nf hwf hl ht, evS_nf hwf hl ht]
theorem sm_le {f g : Nat → Int} : ∀ i, (∀ j, j < i → f j ≤ g j) → sm i f ≤ sm i g
  | 0, _ => Int.le_refl _
  | i + 1, h => by
    show sm i f + f i ≤ sm i g + g i
    have := sm_le i (fun j hj => h j (by omega))
    have := h i (by omega)
    omega
