/-! ROWS 5: a row has at most 418 stands -/
def fuN (tms : List TmT) (n x : Nat) : Nat := if ∃ q, q < n ∧ (tms.getD q tm0).1 = 1 ∧ (tms.getD q tm0).2.1 = x then 1 else 0
theorem fuN_s {tms : List TmT} : ∀ n, sN 3 (fuN tms n) ≤ sN n (fun q => if (tms.getD q tm0).1 = 1 then 1 else 0)
  | 0 => by
    have : ∀ x, fuN tms 0 x = 0 := fun x => if_neg (fun ⟨q, h, _⟩ => by omega)
    show 0 + fuN tms 0 0 + fuN tms 0 1 + fuN tms 0 2 ≤ 0
    rw [this, this, this]
    omega
  | n + 1 => by
    have ih := fuN_s (tms := tms) n
    have st : ∀ x, fuN tms (n + 1) x ≤ fuN tms n x + (if (tms.getD n tm0).1 = 1 ∧ (tms.getD n tm0).2.1 = x then 1 else 0) := by
      intro x
      by_cases e : (tms.getD n tm0).1 = 1 ∧ (tms.getD n tm0).2.1 = x
      · rw [if_pos e]
        unfold fuN
        split <;> omega
      · rw [if_neg e]
        unfold fuN
        by_cases q : ∃ q, q < n ∧ (tms.getD q tm0).1 = 1 ∧ (tms.getD q tm0).2.1 = x
        · rw [if_pos q]
          split <;> omega
        · rw [if_neg q, if_neg]
          · omega
          · rintro ⟨j, h1, h2⟩
            by_cases ej : j = n
            · subst ej; exact e h2
            · exact q ⟨j, by omega, h2⟩
    have s0 := st 0
    have s1 := st 1
    have s2 := st 2
    show 0 + fuN tms (n + 1) 0 + fuN tms (n + 1) 1 + fuN tms (n + 1) 2 ≤ sN n (fun q => if (tms.getD q tm0).1 = 1 then 1 else 0) + (if (tms.getD n tm0).1 = 1 then 1 else 0)
    have ih : 0 + fuN tms n 0 + fuN tms n 1 + fuN tms n 2 ≤ sN n (fun q => if (tms.getD q tm0).1 = 1 then 1 else 0) := ih
    by_cases e : (tms.getD n tm0).1 = 1
    · rw [if_pos e]
      simp only [e, true_and] at s0 s1 s2
      have : (if (tms.getD n tm0).2.1 = ((0 : Nat) : Int) then 1 else 0) + (if (tms.getD n tm0).2.1 = ((1 : Nat) : Int) then 1 else 0) + (if (tms.getD n tm0).2.1 = ((2 : Nat) : Int) then 1 else 0) ≤ 1 := by
        split
        · next z => rw [if_neg (by omega), if_neg (by omega)]; omega
        · split
          · next z => rw [if_neg (by omega)]; omega
          · split <;> omega
      omega
    · rw [if_neg e]
      simp only [e, false_and, if_false] at s0 s1 s2
      omega
theorem sN_one : ∀ n, sN n (fun _ => 1) = n
  | 0 => rfl
  | n + 1 => by show sN n _ + 1 = n + 1; rw [sN_one n]
theorem wS_sum {tms : List TmT} {s : Int} : sN 3 (fu tms s) + sN tms.length (fp tms s) ≤ tms.length := by
  have h1 : sN 3 (fu tms s) ≤ sN 3 (fuN tms tms.length) := sN_le 3 (fun j _ => by
    unfold fu fuN
    split
    · next z => rw [if_pos z.1]; omega
    · omega)
  have h2 := fuN_s (tms := tms) tms.length
  have h3 : sN tms.length (fun q => (if (tms.getD q tm0).1 = 1 then 1 else 0) + fp tms s q) ≤ sN tms.length (fun _ => 1) := sN_le _ (fun j _ => by
    unfold fp
    split
    · rw [if_neg (by omega)]; omega
    · split <;> omega)
  rw [sN_add, sN_one] at h3
  omega
theorem wS_418 {tms : List TmT} {s : Int} (hl : tms.length ≤ 6) : wS tms s ≤ 418 := by
  have h := wS_sum (tms := tms) (s := s)
  have h3 : sN 3 (fu tms s) ≤ 3 := by
    have : sN 3 (fu tms s) ≤ sN 3 (fun _ => 1) := sN_le 3 (fun j _ => by unfold fu; split <;> omega)
    rw [sN_one] at this
    exact this
  unfold wS
  generalize sN 3 (fu tms s) = a at *
  generalize sN tms.length (fp tms s) = b at *
  exact wT_418 ⟨b, by omega⟩ ⟨a, by omega⟩ (by dsimp only; omega)
theorem w0_1 (p : Nat) : 1 ≤ w0 p := by cases p <;> unfold w0 <;> omega
theorem wT_1 (p u : Nat) : 1 ≤ wT p u := by
  cases u
  · exact w0_1 p
  · unfold wT; omega
theorem cpk_0 {s : Int} {t : Nat} (ht : t < 6) : cpk s t = 0 ↔ bt s (6 + t) = false := by
  rw [cpk_bt ht]
  cases bt s (6 + t) <;> cases bt s (12 + t) <;> decide
theorem wS_bind {tms : List TmT} {s : Int} {x v : Nat} (hl : tms.length ≤ 6) (hx : x < 3) (hv : v < 3) (h0 : st_bound s x = 3) (hq : ∃ q, q < tms.length ∧ (tms.getD q tm0).1 = 1 ∧ (tms.getD q tm0).2.1 = x) : wS tms s = 1 + 3 * wS tms (st_bind s x v) := by
  have e1 : sN tms.length (fp tms s) = sN tms.length (fp tms (st_bind s x v)) := sN_cg _ (fun j hj => by unfold fp; rw [cpk_bind hx (by omega) (by omega)])
  have e2 : sN 3 (fu tms s) = sN 3 (fu tms (st_bind s x v)) + 1 := by
    refine sN_up (q := x) ?_ 3 hx (fun j hj hn => ?_)
    · unfold fu
      rw [bound_bind hx (by omega) hx, if_pos rfl, if_pos ⟨hq, h0⟩, if_neg (by omega)]
    · unfold fu
      rw [bound_bind hx (by omega) hj, if_neg hn]
  unfold wS
  rw [e1, e2]
  rfl
theorem wS_pick {tms : List TmT} {s : Int} {t z : Nat} (hl : tms.length ≤ 6) (ht : t < tms.length) (hz : z < 2) (hs : VS s) (h0 : cpk s t = 0) (h2 : (tms.getD t tm0).1 = 2) : 1 + 2 * wS tms (st_pick s t z) ≤ wS tms s := by
  have hb := hs t (by omega) ((cpk_0 (by omega)).1 h0)
  have e1 : sN tms.length (fp tms s) = sN tms.length (fp tms (st_pick s t z)) + 1 := by
    refine sN_up (q := t) ?_ _ ht (fun j hj hn => ?_)
    · unfold fp
      rw [cpk_pick (by omega) hz (by omega) hb, if_pos rfl, if_pos ⟨h2, h0⟩, if_neg (by omega)]
    · unfold fp
      rw [cpk_pick (by omega) hz (by omega) hb, if_neg hn]
  have e2 : sN 3 (fu tms s) = sN 3 (fu tms (st_pick s t z)) := sN_cg _ (fun j hj => by unfold fu; rw [bound_pick (by omega) hz (by omega)])
  unfold wS
  rw [e1, e2]
  exact wT_p _ _
theorem VS.bind {s : Int} {x v : Nat} (a : VS s) (hx : x < 3) (hv : v < 4) : VS (st_bind s x v) := by
  intro t ht h
  rw [bt_bind hx hv (by omega), if_neg (by omega), if_neg (by omega)] at h ⊢
  exact a t ht h
theorem VS.pick {s : Int} {t z : Nat} (a : VS s) (ht : t < 6) (hz : z < 2) : VS (st_pick s t z) := by
  intro j hj h
  rw [bt_pick ht hz (by omega)] at h ⊢
  simp only [Bool.or_eq_false_iff, decide_eq_false_iff_not] at h ⊢
  exact ⟨⟨a j hj h.1.1, by omega⟩, by omega⟩
/-- what the term t comes to in a stand -/
def evS (fns : List FnT) (tms : List TmT) (t : Nat) (s : Int) : Int × Int := evt fns tms (cbd s) (cpk s) t
theorem nx_ok {fns : List FnT} {tms : List TmT} {t : Nat} {s : Int} (hwf : WF fns tms) (hl : tms.length ≤ 6) (ht : t < tms.length) (hs : VS s) : (∀ s', s' ∈ nx s (evS fns tms t s).1 → VS s') ∧ 1 + ((nx s (evS fns tms t s).1).map (wS tms)).sum ≤ wS tms s := by
  have hb : ∀ x, 0 ≤ x ∧ x ≤ 2 → 0 ≤ cbd s x ∧ cbd s x ≤ 3 := fun x _ => am_and3 _
  have hr := evt_rng (bd := cbd s) (pk := cpk s) hwf hl hb t ht
  obtain ⟨n1, n2⟩ := evt_need (bd := cbd s) (pk := cpk s) hwf hl hb t ht
  unfold evS
  generalize (evt fns tms (cbd s) (cpk s) t).1 = o at *
  unfold nx
  by_cases q : 8 ≤ o
  · obtain ⟨j, h1, h2, h3, h4⟩ := n2 q
    rw [if_pos q, show o - 8 = (j : Int) by omega]
    have p0 := wS_pick (z := 0) hl h1 (by omega) hs h4 h3
    have p1 := wS_pick (z := 1) hl h1 (by omega) hs h4 h3
    refine ⟨fun s' m => ?_, ?_⟩
    · simp only [List.mem_cons, List.not_mem_nil, or_false] at m
      rcases m with m | m
      · rw [m]; exact hs.pick (z := 0) (by omega) (by omega)
      · rw [m]; exact hs.pick (z := 1) (by omega) (by omega)
    · simp only [List.map_cons, List.map_nil, List.sum_cons, List.sum_nil]
      have c0 : ((0 : Nat) : Int) = 0 := rfl
      have c1 : ((1 : Nat) : Int) = 1 := rfl
      rw [c0] at p0
      rw [c1] at p1
      omega
  · by_cases q1 : 4 ≤ o
    · obtain ⟨x, h1, h2, h3, h4⟩ := n1 q1 (by omega)
      rw [if_neg q, if_pos q1, show o - 4 = (x : Int) by omega]
      have b0 := wS_bind (v := 0) hl h1 (by omega) h3 h4
      have b1 := wS_bind (v := 1) hl h1 (by omega) h3 h4
      have b2 := wS_bind (v := 2) hl h1 (by omega) h3 h4
      refine ⟨fun s' m => ?_, ?_⟩
      · simp only [List.mem_cons, List.not_mem_nil, or_false] at m
        rcases m with m | m | m
        · rw [m]; exact hs.bind (v := 0) (by omega) (by omega)
        · rw [m]; exact hs.bind (v := 1) (by omega) (by omega)
        · rw [m]; exact hs.bind (v := 2) (by omega) (by omega)
      · simp only [List.map_cons, List.map_nil, List.sum_cons, List.sum_nil]
        have c0 : ((0 : Nat) : Int) = 0 := rfl
        have c1 : ((1 : Nat) : Int) = 1 := rfl
        have c2 : ((2 : Nat) : Int) = 2 := rfl
        rw [c0] at b0
        rw [c1] at b1
        rw [c2] at b2
        omega
    · rw [if_neg q, if_neg q1]
      refine ⟨fun s' m => absurd m (by simp), ?_⟩
      simp only [List.map_nil, List.sum_nil]
      exact wT_1 _ _
/-- the row after k stands were looked at -/
def rwL (fns : List FnT) (tms : List TmT) (t : Nat) (s0 : Int) : Nat → List Int
  | 0 => [s0]
  | k + 1 => if k < (rwL fns tms t s0 k).length then rwL fns tms t s0 k ++ nx ((rwL fns tms t s0 k).getD k 0) (evS fns tms t ((rwL fns tms t s0 k).getD k 0)).1 else rwL fns tms t s0 k
theorem sum_drop {W : Int → Nat} {L M : List Int} {k : Nat} (hk : k < L.length) : (((L ++ M).drop (k + 1)).map W).sum + W (L.getD k 0) = ((L.drop k).map W).sum + (M.map W).sum := by
  have e : L.drop k = L.getD k 0 :: L.drop (k + 1) := by
    rw [List.drop_eq_getElem_cons hk]
    congr 1
    rw [List.getD_eq_getElem?_getD, List.getElem?_eq_getElem hk]
    rfl
  rw [List.drop_append_of_le_length (by omega), e]
  simp only [List.map_append, List.sum_append, List.map_cons, List.sum_cons]
  omega
theorem rwL_inv {fns : List FnT} {tms : List TmT} {t : Nat} {s0 : Int} (hwf : WF fns tms) (hl : tms.length ≤ 6) (ht : t < tms.length) (hs : VS s0) : ∀ k, (∀ s, s ∈ rwL fns tms t s0 k → VS s) ∧ (k ≤ (rwL fns tms t s0 k).length → k + (((rwL fns tms t s0 k).drop k).map (wS tms)).sum ≤ 418)
  | 0 => by
    refine ⟨fun s m => ?_, fun _ => ?_⟩
    · rw [List.mem_singleton.1 m]; exact hs
    · have := wS_418 (s := s0) hl
      simpa [rwL] using this
  | k + 1 => by
    obtain ⟨i1, i2⟩ := rwL_inv hwf hl ht hs k
    unfold rwL
    by_cases q : k < (rwL fns tms t s0 k).length
    · rw [if_pos q]
      have hv : VS ((rwL fns tms t s0 k).getD k 0) := i1 _ (by rw [List.getD_eq_getElem?_getD, List.getElem?_eq_getElem q]; exact List.getElem_mem q)
      obtain ⟨n1, n2⟩ := nx_ok (t := t) hwf hl ht hv
      refine ⟨fun s m => ?_, fun _ => ?_⟩
      · rcases List.mem_append.1 m with m | m
        · exact i1 s m
        · exact n1 s m
      · have := sum_drop (W := wS tms) (M := nx ((rwL fns tms t s0 k).getD k 0) (evS fns tms t ((rwL fns tms t s0 k).getD k 0)).1) q
        have := i2 (by omega)
        omega
    · rw [if_neg q]
      exact ⟨i1, fun h => by omega⟩
theorem sum_len {W : Int → Nat} (hW : ∀ x, 1 ≤ W x) : ∀ L : List Int, L.length ≤ (L.map W).sum
  | [] => Nat.le_refl _
  | x :: L => by
    have := sum_len hW L
    have := hW x
    simp only [List.length_cons, List.map_cons, List.sum_cons]
    omega
theorem rwL_418 {fns : List FnT} {tms : List TmT} {t : Nat} {s0 : Int} (hwf : WF fns tms) (hl : tms.length ≤ 6) (ht : t < tms.length) (hs : VS s0) {k : Nat} (hk : k ≤ (rwL fns tms t s0 k).length) : (rwL fns tms t s0 k).length ≤ 418 := by
  have h := (rwL_inv hwf hl ht hs k).2 hk
  have h2 := sum_len (W := wS tms) (fun x => wT_1 _ _) ((rwL fns tms t s0 k).drop k)
  rw [List.length_drop] at h2
  omega
theorem rwL_end {fns : List FnT} {tms : List TmT} {t : Nat} {s0 : Int} {k : Nat} (hk : (rwL fns tms t s0 k).length ≤ k) : ∀ j, rwL fns tms t s0 (k + j) = rwL fns tms t s0 k
  | 0 => rfl
  | j + 1 => by
    have := rwL_end hk j
    have e : rwL fns tms t s0 (k + (j + 1)) = if k + j < (rwL fns tms t s0 (k + j)).length then rwL fns tms t s0 (k + j) ++ nx ((rwL fns tms t s0 (k + j)).getD (k + j) 0) (evS fns tms t ((rwL fns tms t s0 (k + j)).getD (k + j) 0)).1 else rwL fns tms t s0 (k + j) := rfl
    rw [e, this, if_neg (by omega)]
