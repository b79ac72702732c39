/-! SOUNDNESS 1: the abstract heap, locals and stack against the machine's -/
/-- the classes' numbers; int[]; arrays of objects; the script's address; where the new cells begin; the script -/
abbrev sd_T : Type := va_G × ClassId × (Nat → ClassId) × Nat × Nat × List Int
abbrev sd_D (G : sd_T) : va_G := G.1
abbrev sd_ai (G : sd_T) : ClassId := G.2.1
abbrev sd_aq (G : sd_T) : Nat → ClassId := G.2.2.1
abbrev sd_b (G : sd_T) : Nat := G.2.2.2.1
abbrev sd_o (G : sd_T) : Nat := G.2.2.2.2.1
abbrev sd_sc (G : sd_T) : List Int := G.2.2.2.2.2
def sd_ad (G : sd_T) (r : Nat) : Nat := if r = 0 then sd_b G else sd_o G + (r - 1)
def sd_cv (G : sd_T) (v : am_V) : Value := match v with
  | Sum.inl x => .int (Int32.ofInt x)
  | Sum.inr (Sum.inl x) => .long (Int64.ofInt x)
  | Sum.inr (Sum.inr r) => va_rf (r.map (sd_ad G))
def sd_ce (G : sd_T) (c : am_C) : va_E := match c with
  | Sum.inl (ci, fs) => .inr (ci, fs.map (sd_cv G))
  | Sum.inr (Sum.inl l) => .inl (sd_ai G, l.length, .inl (fun k => Int32.ofInt (l.getD k 0)))
  | Sum.inr (Sum.inr (ci, l)) => .inl (sd_aq G ci, l.length, .inr (.inr (.inr (.inr (fun k => (l.getD k none).map (sd_ad G))))))
def sd_ws (G : sd_T) (n : Nat) (h : am_H) : va_W := (List.range n).map (fun i => (sd_ad G (i + 1), sd_ce G (h (i + 1))))
def sd_A (G : sd_T) : Nat → Prop := fun q => sd_o G ≤ q
def sd_okv (v : am_V) : Prop := match v with
  | Sum.inl x => inR x
  | Sum.inr (Sum.inl x) => inL x
  | Sum.inr (Sum.inr _) => True
def sd_oks (st : List am_V) : Prop := ∀ v ∈ st, sd_okv v
def sd_okl (al : am_L) : Prop := ∀ i v, am_get al i = some v → sd_okv v
def sd_okc (c : am_C) : Prop := match c with
  | Sum.inl (_, fs) => ∀ v ∈ fs, sd_okv v
  | Sum.inr (Sum.inl l) => ∀ x ∈ l, inR x
  | Sum.inr (Sum.inr (ci, _)) => am_isq ci = true
abbrev sd_dead : am_C := Sum.inl (99, [])
def sd_R (G : sd_T) (n : Nat) (h : am_H) (H : Heap) : Prop :=
  va_P (sd_D G) am_cl (sd_ws G n h) H ∧ h 0 = Sum.inr (Sum.inl (sd_sc G)) ∧ (∀ r, n < r → h r = sd_dead) ∧ ∀ r, sd_okc (h r)
theorem sd_oks_nil : sd_oks [] := fun _ h => by cases h
theorem sd_oks_cons {v : am_V} {st : List am_V} : sd_oks (v :: st) ↔ sd_okv v ∧ sd_oks st := List.forall_mem_cons
theorem sd_ad_s (G : sd_T) (i : Nat) : sd_ad G (i + 1) = sd_o G + i := by simp [sd_ad]
theorem sd_ad_p {G : sd_T} {r : Nat} (h : r ≠ 0) : sd_ad G r = sd_o G + (r - 1) := if_neg h
theorem sd_at (G : sd_T) {n r : Nat} (h : am_H) (h0 : r ≠ 0) (hr : r ≤ n) : (sd_ws G n h)[r - 1]? = some (sd_ad G r, sd_ce G (h r)) := by
  unfold sd_ws
  rw [List.getElem?_map, List.getElem?_range (by omega)]
  simp only [Option.map_some]
  rw [show r - 1 + 1 = r by omega]
theorem sd_get (G : sd_T) {n k : Nat} {h : am_H} {q : Nat × va_E} (hq : (sd_ws G n h)[k]? = some q) : k < n ∧ q = (sd_o G + k, sd_ce G (h (k + 1))) := by
  unfold sd_ws at hq
  rw [List.getElem?_map] at hq
  by_cases hk : k < n
  · rw [List.getElem?_range hk] at hq
    simp only [Option.map_some, Option.some.injEq] at hq
    rw [← hq, sd_ad_s]
    exact ⟨hk, rfl⟩
  · rw [List.getElem?_eq_none (by simp; omega)] at hq
    cases hq
theorem sd_ws_len (G : sd_T) (n : Nat) (h : am_H) : (sd_ws G n h).length = n := by simp [sd_ws]
theorem sd_put (G : sd_T) {n r : Nat} {h : am_H} {c : am_C} (h0 : r ≠ 0) (hr : r ≤ n) : (sd_ws G n h).set (r - 1) (sd_ad G r, sd_ce G c) = sd_ws G n (am_up h r c) := by
  apply List.ext_getElem?
  intro k
  by_cases hk : k = r - 1
  · subst hk
    rw [sd_at G _ h0 hr, List.getElem?_set_self (by rw [sd_ws_len]; omega), am_up_s]
  · rw [List.getElem?_set_ne (fun e => hk e.symm)]
    unfold sd_ws
    rw [List.getElem?_map, List.getElem?_map]
    by_cases hn : k < n
    · rw [List.getElem?_range hn]
      simp only [Option.map_some]
      rw [am_up_n (by omega)]
    · rw [List.getElem?_eq_none (by simp; omega)]
      rfl
theorem sd_app (G : sd_T) {n : Nat} {h : am_H} {c : am_C} : sd_ws G n h ++ [(sd_o G + n, sd_ce G c)] = sd_ws G (n + 1) (am_up h (n + 1) c) := by
  unfold sd_ws
  rw [List.range_succ, List.map_append]
  congr 1
  · apply List.map_congr_left
    intro i hi
    have := List.mem_range.mp hi
    rw [am_up_n (by omega)]
  · simp only [List.map_cons, List.map_nil]
    rw [am_up_s, sd_ad_s]
theorem sd_dis (G : sd_T) (n : Nat) (h : am_H) : va_D (sd_A G) (sd_ws G n h) := by
  refine ⟨fun i j p q hp hq e => ?_, fun k q hq => ?_⟩
  · obtain ⟨-, rfl⟩ := sd_get G hp
    obtain ⟨-, rfl⟩ := sd_get G hq
    have e : sd_o G + i = sd_o G + j := e
    omega
  · obtain ⟨-, rfl⟩ := sd_get G hq
    exact Nat.le_add_right _ _
theorem sd_lo {G : sd_T} {n : Nat} {h : am_H} {H : Heap} (hR : sd_R G n h H) (hn : 0 < n) : sd_o G + n ≤ H.size := by
  have h1 := sd_at G h (r := n) (by omega) (Nat.le_refl n)
  have h2 := (hR.1 _ _ h1).lt
  rw [sd_ad_p (by omega)] at h2
  have h2 : sd_o G + (n - 1) < H.size := h2
  omega
/-- an object: it is a cell of the heap -/
theorem sd_obj {G : sd_T} {n r ci : Nat} {h : am_H} {H : Heap} {fs : List am_V} (hR : sd_R G n h H) (hr : h r = Sum.inl (ci, fs)) (hc : ci ≠ 99) : r ≠ 0 ∧ r ≤ n ∧ (sd_ws G n h)[r - 1]? = some (sd_ad G r, .inr (ci, fs.map (sd_cv G))) ∧ ∀ v ∈ fs, sd_okv v := by
  have h0 : r ≠ 0 := by
    intro e
    subst e
    rw [hR.2.1] at hr
    cases hr
  have h1 : r ≤ n := by
    apply Nat.le_of_not_lt
    intro e
    rw [hR.2.2.1 r e] at hr
    cases hr
    exact hc rfl
  have h2 := sd_at G h h0 h1
  have h3 := hR.2.2.2 r
  rw [hr] at h2 h3
  exact ⟨h0, h1, h2, h3⟩
theorem sd_arr {G : sd_T} {n r : Nat} {h : am_H} {H : Heap} {l : List Int} (hR : sd_R G n h H) (hr : h r = Sum.inr (Sum.inl l)) (h0 : r ≠ 0) : r ≤ n ∧ (sd_ws G n h)[r - 1]? = some (sd_ad G r, .inl (sd_ai G, l.length, .inl (fun k => Int32.ofInt (l.getD k 0)))) ∧ ∀ x ∈ l, inR x := by
  have h1 : r ≤ n := by
    apply Nat.le_of_not_lt
    intro e
    rw [hR.2.2.1 r e] at hr
    cases hr
  have h2 := sd_at G h h0 h1
  have h3 := hR.2.2.2 r
  rw [hr] at h2 h3
  exact ⟨h1, h2, h3⟩
theorem sd_qar {G : sd_T} {n r ci : Nat} {h : am_H} {H : Heap} {l : List (Option Nat)} (hR : sd_R G n h H) (hr : h r = Sum.inr (Sum.inr (ci, l))) : r ≠ 0 ∧ r ≤ n ∧ (sd_ws G n h)[r - 1]? = some (sd_ad G r, .inl (sd_aq G ci, l.length, .inr (.inr (.inr (.inr (fun k => (l.getD k none).map (sd_ad G))))))) ∧ am_isq ci = true := by
  have h0 : r ≠ 0 := by
    intro e
    subst e
    rw [hR.2.1] at hr
    cases hr
  have h1 : r ≤ n := by
    apply Nat.le_of_not_lt
    intro e
    rw [hR.2.2.1 r e] at hr
    cases hr
  have h2 := sd_at G h h0 h1
  have h3 := hR.2.2.2 r
  rw [hr] at h2 h3
  exact ⟨h0, h1, h2, h3⟩
/-- a cell is written -/
theorem sd_R.put {G : sd_T} {n r : Nat} {h : am_H} {H H1 : Heap} {c : am_C} (hR : sd_R G n h H) (h0 : r ≠ 0) (hr : r ≤ n) (hc : sd_okc c) (hP : va_P (sd_D G) am_cl ((sd_ws G n h).set (r - 1) (sd_ad G r, sd_ce G c)) H1) : sd_R G n (am_up h r c) H1 := by
  rw [sd_put G h0 hr] at hP
  refine ⟨hP, ?_, fun q hq => ?_, fun q => ?_⟩
  · rw [am_up_n (fun e => h0 e.symm)]; exact hR.2.1
  · rw [am_up_n (by omega)]; exact hR.2.2.1 q hq
  · by_cases e : q = r
    · subst e; rw [am_up_s]; exact hc
    · rw [am_up_n e]; exact hR.2.2.2 q
/-- a cell is made -/
theorem sd_R.push {G : sd_T} {n : Nat} {h : am_H} {H H1 : Heap} {c : am_C} (hR : sd_R G n h H) (hc : sd_okc c) (hP : va_P (sd_D G) am_cl (sd_ws G n h ++ [(sd_o G + n, sd_ce G c)]) H1) : sd_R G (n + 1) (am_up h (n + 1) c) H1 := by
  rw [sd_app G] at hP
  refine ⟨hP, ?_, fun q hq => ?_, fun q => ?_⟩
  · rw [am_up_n (by omega)]; exact hR.2.1
  · rw [am_up_n (by omega)]; exact hR.2.2.1 q (by omega)
  · by_cases e : q = n + 1
    · subst e; rw [am_up_s]; exact hc
    · rw [am_up_n e]; exact hR.2.2.2 q
/-! locals -/
def sd_lv (G : sd_T) : Nat → am_L → List (Nat × Value)
  | _, [] => []
  | i, none :: r => sd_lv G (i + 1) r
  | i, some v :: r => (i, sd_cv G v) :: sd_lv G (i + 1) r
theorem sd_lv_mem {G : sd_T} {q : Nat × Value} : ∀ {al : am_L} {i : Nat}, q ∈ sd_lv G i al → ∃ j v, am_get al j = some v ∧ q = (i + j, sd_cv G v)
  | [], _, h => by cases h
  | none :: r, i, h => by
    obtain ⟨j, v, h1, h2⟩ := sd_lv_mem (al := r) (i := i + 1) h
    exact ⟨j + 1, v, h1, by rw [h2, show i + 1 + j = i + (j + 1) by omega]⟩
  | some v :: r, i, h => by
    rcases List.mem_cons.mp h with h | h
    · exact ⟨0, v, rfl, h⟩
    · obtain ⟨j, v, h1, h2⟩ := sd_lv_mem (al := r) (i := i + 1) h
      exact ⟨j + 1, v, h1, by rw [h2, show i + 1 + j = i + (j + 1) by omega]⟩
theorem sd_lv_in {G : sd_T} {v : am_V} : ∀ {al : am_L} {i j : Nat}, am_get al j = some v → (i + j, sd_cv G v) ∈ sd_lv G i al
  | [], _, _, h => by cases h
  | none :: r, i, 0, h => by cases h
  | none :: r, i, j + 1, h => by
    have := sd_lv_in (G := G) (al := r) (i := i + 1) (j := j) h
    rw [show i + 1 + j = i + (j + 1) by omega] at this
    exact this
  | some w :: r, i, 0, h => by
    cases h
    exact List.mem_cons_self
  | some w :: r, i, j + 1, h => by
    have := sd_lv_in (G := G) (al := r) (i := i + 1) (j := j) h
    rw [show i + 1 + j = i + (j + 1) by omega] at this
    exact List.mem_cons_of_mem _ this
theorem sd_lv_get {G : sd_T} {al : am_L} {ls : Array Slot} {nL j : Nat} {v : am_V} (hl : lv_has ls nL (sd_lv G 0 al)) (h : am_get al j = some v) : ls[j]? = some (.val (sd_cv G v)) := by
  have h1 := sd_lv_in (G := G) (i := 0) h
  rw [Nat.zero_add] at h1
  exact hl.2.2 _ h1
theorem sd_cat (G : sd_T) (v : am_V) : (sd_cv G v).category = am_cat v := by
  rcases v with x | x | r
  · rfl
  · rfl
  · cases r <;> rfl
theorem am_kil_get {x : Option am_V} {w : am_V} (h : am_kil x = some w) : x = some w ∧ am_cat w ≠ 2 := by
  rcases x with _ | (x | x | x)
  · cases h
  · cases h; exact ⟨rfl, by simp [am_cat]⟩
  · cases h
  · cases h; exact ⟨rfl, by simp [am_cat]⟩
theorem am_set_spec {v : am_V} : ∀ {al : am_L} {i : Nat} {al' : am_L}, am_set al i v = some al' → al'.length = al.length ∧ i < al.length ∧ ∀ j w, am_get al' j = some w → (j = i ∧ w = v) ∨ (j ≠ i ∧ am_get al j = some w ∧ ¬ (j + 1 = i ∧ am_cat w = 2))
  | [], _, _, h => by cases h
  | _ :: r, 0, _, h => by
    cases h
    refine ⟨rfl, by simp, fun j w hj => ?_⟩
    cases j with
    | zero => cases hj; exact Or.inl ⟨rfl, rfl⟩
    | succ j => exact Or.inr ⟨by omega, hj, by omega⟩
  | x :: r, 1, _, h => by
    obtain ⟨q, h1, rfl⟩ := Option.map_eq_some_iff.mp h
    obtain ⟨g1, g2, g3⟩ := am_set_spec h1
    refine ⟨by simp [g1], by simp; omega, fun j w hj => ?_⟩
    cases j with
    | zero =>
      obtain ⟨e1, e2⟩ := am_kil_get (show am_kil x = some w from hj)
      exact Or.inr ⟨by omega, e1, fun e => e2 e.2⟩
    | succ j =>
      rcases g3 j w hj with ⟨e1, e2⟩ | ⟨e1, e2, e3⟩
      · exact Or.inl ⟨by omega, e2⟩
      · exact Or.inr ⟨by omega, e2, by omega⟩
  | x :: r, i + 2, _, h => by
    obtain ⟨q, h1, rfl⟩ := Option.map_eq_some_iff.mp h
    obtain ⟨g1, g2, g3⟩ := am_set_spec h1
    refine ⟨by simp [g1], by simp; omega, fun j w hj => ?_⟩
    cases j with
    | zero => exact Or.inr ⟨by omega, hj, by omega⟩
    | succ j =>
      rcases g3 j w hj with ⟨e1, e2⟩ | ⟨e1, e2, e3⟩
      · exact Or.inl ⟨by omega, e2⟩
      · exact Or.inr ⟨by omega, e2, by omega⟩
theorem am_nil_spec : ∀ {al : am_L} {i : Nat} {al' : am_L}, am_nil al i = some al' → al'.length = al.length ∧ i < al.length ∧ ∀ j w, am_get al' j = some w → j ≠ i ∧ am_get al j = some w
  | [], _, _, h => by cases h
  | _ :: r, 0, _, h => by
    cases h
    refine ⟨rfl, by simp, fun j w hj => ?_⟩
    cases j with
    | zero => cases hj
    | succ j => exact ⟨by omega, hj⟩
  | x :: r, i + 1, _, h => by
    obtain ⟨q, h1, rfl⟩ := Option.map_eq_some_iff.mp h
    obtain ⟨g1, g2, g3⟩ := am_nil_spec h1
    refine ⟨by simp [g1], by simp; omega, fun j w hj => ?_⟩
    cases j with
    | zero => exact ⟨by omega, hj⟩
    | succ j =>
      obtain ⟨e1, e2⟩ := g3 j w hj
      exact ⟨by omega, e2⟩
theorem am_le_spec : ∀ {al al' : am_L}, am_le al al' → al.length = al'.length ∧ ∀ j w, am_get al j = some w → am_get al' j = some w
  | [], [], _ => ⟨rfl, fun _ _ h => by cases h⟩
  | [], _ :: _, h => by cases h
  | none :: _, [], h => by cases h
  | some _ :: _, [], h => by cases h
  | none :: r, x :: q, h => by
    obtain ⟨g1, g2⟩ := am_le_spec (al := r) (al' := q) h
    refine ⟨by simp [g1], fun j w hj => ?_⟩
    cases j with
    | zero => cases hj
    | succ j => exact g2 j w hj
  | some v :: r, x :: q, h => by
    obtain ⟨e, h⟩ := h
    obtain ⟨g1, g2⟩ := am_le_spec (al := r) (al' := q) h
    refine ⟨by simp [g1], fun j w hj => ?_⟩
    cases j with
    | zero => exact e.trans hj
    | succ j => exact g2 j w hj
theorem lv_incl {ls : Array Slot} {nL : Nat} {l l' : List (Nat × Value)} (h : lv_has ls nL l) (hi : ∀ q ∈ l', q ∈ l) : lv_has ls nL l' := ⟨h.1, h.2.1, fun q hq => h.2.2 q (hi q hq)⟩
theorem sd_lv_less {G : sd_T} {al al' : am_L} {ls : Array Slot} {nL : Nat} (hl : lv_has ls nL (sd_lv G 0 al')) (h : ∀ j w, am_get al j = some w → am_get al' j = some w) : lv_has ls nL (sd_lv G 0 al) := lv_incl hl (fun q hq => by
  obtain ⟨j, v, h1, rfl⟩ := sd_lv_mem hq
  exact sd_lv_in (h j v h1))
theorem sd_lv_set {G : sd_T} {al al' : am_L} {i : Nat} {v : am_V} {ls : Array Slot} {nL : Nat} (hs : am_set al i v = some al') (hl : lv_has ls nL ((i, sd_cv G v) :: (sd_lv G 0 al).filter (fun q => !(q.1 == i) && !(q.1 + 1 == i && q.2.category == 2)))) : lv_has ls nL (sd_lv G 0 al') := lv_incl hl (fun q hq => by
  obtain ⟨j, w, h1, rfl⟩ := sd_lv_mem hq
  rw [Nat.zero_add]
  rcases (am_set_spec hs).2.2 j w h1 with ⟨rfl, rfl⟩ | ⟨e1, e2, e3⟩
  · exact List.mem_cons_self
  · refine List.mem_cons_of_mem _ (List.mem_filter.mpr ⟨?_, ?_⟩)
    · have := sd_lv_in (G := G) (i := 0) e2
      rw [Nat.zero_add] at this
      exact this
    · simp only [sd_cat, Bool.and_eq_true, Bool.not_eq_true', beq_eq_false_iff_ne, ne_eq, Bool.and_eq_false_iff]
      refine ⟨e1, ?_⟩
      by_cases z : j + 1 = i
      · exact Or.inr (fun y => e3 ⟨z, y⟩)
      · exact Or.inl z)
theorem sd_lv_setL {G : sd_T} {al al' al'' : am_L} {i : Nat} {v : am_V} {ls : Array Slot} {nL : Nat} (hs : am_set al i v = some al') (hs2 : am_nil al' (i + 1) = some al'') (hl : lv_has ls nL ((i, sd_cv G v) :: (sd_lv G 0 al).filter (fun q => !(q.1 == i) && (!(q.1 == i + 1) && !(q.1 + 1 == i && q.2.category == 2))))) : lv_has ls nL (sd_lv G 0 al'') := lv_incl hl (fun q hq => by
  obtain ⟨j, w, h1, rfl⟩ := sd_lv_mem hq
  rw [Nat.zero_add]
  obtain ⟨n1, h1⟩ := (am_nil_spec hs2).2.2 j w h1
  rcases (am_set_spec hs).2.2 j w h1 with ⟨rfl, rfl⟩ | ⟨e1, e2, e3⟩
  · exact List.mem_cons_self
  · refine List.mem_cons_of_mem _ (List.mem_filter.mpr ⟨?_, ?_⟩)
    · have := sd_lv_in (G := G) (i := 0) e2
      rw [Nat.zero_add] at this
      exact this
    · simp only [sd_cat, Bool.and_eq_true, Bool.not_eq_true', beq_eq_false_iff_ne, ne_eq, Bool.and_eq_false_iff]
      refine ⟨e1, n1, ?_⟩
      by_cases z : j + 1 = i
      · exact Or.inr (fun y => e3 ⟨z, y⟩)
      · exact Or.inl z)
theorem sd_okl_set {al al' : am_L} {i : Nat} {v : am_V} (hs : am_set al i v = some al') (h : sd_okl al) (hv : sd_okv v) : sd_okl al' := fun j w hj => by
  rcases (am_set_spec hs).2.2 j w hj with ⟨rfl, rfl⟩ | ⟨-, e2, -⟩
  · exact hv
  · exact h j w e2
theorem sd_okl_nil {al al' : am_L} {i : Nat} (hs : am_nil al i = some al') (h : sd_okl al) : sd_okl al' := fun j w hj => h j w ((am_nil_spec hs).2.2 j w hj).2
/-! the entry of a method -/
theorem am_sl_mem {G : sd_T} {v : am_V} : ∀ {vs : List am_V} {i j : Nat}, am_get (am_sl vs) j = some v → (i + j, sd_cv G v) ∈ lv_args i (vs.map (sd_cv G)) ∧ v ∈ vs
  | [], _, _, h => by cases h
  | Sum.inl x :: r, i, 0, h => by cases h; exact ⟨List.mem_cons_self, List.mem_cons_self⟩
  | Sum.inl x :: r, i, j + 1, h => by
    obtain ⟨h1, h2⟩ := am_sl_mem (G := G) (vs := r) (i := i + 1) (j := j) h
    rw [show i + 1 + j = i + (j + 1) by omega] at h1
    exact ⟨List.mem_cons_of_mem _ h1, List.mem_cons_of_mem _ h2⟩
  | Sum.inr (Sum.inr x) :: r, i, 0, h => by cases h; exact ⟨List.mem_cons_self, List.mem_cons_self⟩
  | Sum.inr (Sum.inr x) :: r, i, j + 1, h => by
    obtain ⟨h1, h2⟩ := am_sl_mem (G := G) (vs := r) (i := i + 1) (j := j) h
    rw [show i + 1 + j = i + (j + 1) by omega] at h1
    refine ⟨List.mem_cons_of_mem _ ?_, List.mem_cons_of_mem _ h2⟩
    rw [if_neg (by cases x <;> simp [sd_cv, va_rf, Value.category])]
    exact h1
  | Sum.inr (Sum.inl x) :: r, i, 0, h => by cases h; exact ⟨List.mem_cons_self, List.mem_cons_self⟩
  | Sum.inr (Sum.inl x) :: r, i, 1, h => by cases h
  | Sum.inr (Sum.inl x) :: r, i, j + 2, h => by
    obtain ⟨h1, h2⟩ := am_sl_mem (G := G) (vs := r) (i := i + 2) (j := j) h
    rw [show i + 2 + j = i + (j + 2) by omega] at h1
    exact ⟨List.mem_cons_of_mem _ h1, List.mem_cons_of_mem _ h2⟩
theorem am_sl_len (G : sd_T) : ∀ (vs : List am_V), (lg_sl (vs.map (sd_cv G))).length = (am_sl vs).length
  | [] => rfl
  | Sum.inl x :: r => by
    have := am_sl_len G r
    simp [lg_sl, am_sl, sd_cv, Value.category] at this ⊢
    omega
  | Sum.inr (Sum.inr none) :: r => by
    have := am_sl_len G r
    simp [lg_sl, am_sl, sd_cv, va_rf, Value.category] at this ⊢
    omega
  | Sum.inr (Sum.inr (some x)) :: r => by
    have := am_sl_len G r
    simp [lg_sl, am_sl, sd_cv, va_rf, Value.category] at this ⊢
    omega
  | Sum.inr (Sum.inl x) :: r => by
    have := am_sl_len G r
    simp [lg_sl, am_sl, sd_cv, Value.category] at this ⊢
    omega
theorem am_pad_spec : ∀ (k : Nat) (l : am_L), l.length ≤ k → (am_pad k l).length = k ∧ ∀ j w, am_get (am_pad k l) j = some w → am_get l j = some w
  | 0, [], _ => ⟨rfl, fun _ _ h => h⟩
  | 0, _ :: _, h => by simp at h
  | k + 1, [], _ => by
    obtain ⟨g1, g2⟩ := am_pad_spec k [] (Nat.zero_le k)
    refine ⟨by simp [am_pad, g1], fun j w hj => ?_⟩
    cases j with
    | zero => cases hj
    | succ j => exact g2 j w hj
  | k + 1, x :: l, h => by
    obtain ⟨g1, g2⟩ := am_pad_spec k l (by simp at h; omega)
    refine ⟨by simp [am_pad, g1], fun j w hj => ?_⟩
    cases j with
    | zero => exact hj
    | succ j => exact g2 j w hj
