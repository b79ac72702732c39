/-! MODEL 1: stands of the model beside those of the class -/
def mpk (m : Int) (t : Nat) : Int := am_and (am_shr m (wr (2 * wr (3 + (t : Int))))) 3
def mpick (m t z : Int) : Int := am_or m (am_shl z (wr (2 * wr (3 + t))))
def SR (s m : Int) : Prop := (∀ x : Nat, x < 3 → st_bound m x = st_bound s x) ∧ ∀ t, t < 6 → mpk m t = cpk s t
theorem mpk_bt {m : Int} {t : Nat} (ht : t < 6) : mpk m t = b2 (bt m (6 + 2 * t)) + 2 * b2 (bt m (7 + 2 * t)) := by
  unfold mpk
  rw [wr_ok (x := 3 + (t : Int)) (by omega) (by omega), wr_ok (by omega) (by omega), show (2 * (3 + (t : Int))) = ((6 + 2 * t : Nat) : Int) by omega, and3_bt, bt_shr (by omega), bt_shr (by omega)]
  rw [show 6 + 2 * t + 0 = 6 + 2 * t by omega, show 6 + 2 * t + 1 = 7 + 2 * t by omega]
theorem bt_mpick {m : Int} {t z i : Nat} (ht : t < 6) (hz : z < 2) (hi : i < 32) : bt (mpick m t ((z + 1 : Nat) : Int)) i = (bt m i || decide (i = 6 + 2 * t + z)) := by
  have k1 : ∀ (t : Fin 6) (z : Fin 2) (i : Fin 32), bt (am_shl ((z.val + 1 : Nat) : Int) (wr (2 * wr (3 + (t.val : Int))))) i.val = decide (i.val = 6 + 2 * t.val + z.val) := by decide +kernel
  unfold mpick
  rw [bt_or, k1 ⟨t, ht⟩ ⟨z, hz⟩ ⟨i, hi⟩]
theorem mpk_bind {m : Int} {x v t : Nat} (hx : x < 3) (hv : v < 4) (ht : t < 6) : mpk (st_bind m x v) t = mpk m t := by
  rw [mpk_bt ht, bt_bind hx hv (by omega), bt_bind hx hv (by omega), mpk_bt ht]
  rw [if_neg (by omega), if_neg (by omega), if_neg (by omega), if_neg (by omega)]
theorem bound_mpick {m : Int} {t z y : Nat} (ht : t < 6) (hz : z < 2) (hy : y < 3) : st_bound (mpick m t ((z + 1 : Nat) : Int)) y = st_bound m y := by
  rw [bound_bt hy, bt_mpick ht hz (by omega), bt_mpick ht hz (by omega), bound_bt hy]
  simp [show ¬ 2 * y = 6 + 2 * t + z by omega, show ¬ 2 * y + 1 = 6 + 2 * t + z by omega]
theorem mpk_mpick {m : Int} {t z j : Nat} (ht : t < 6) (hz : z < 2) (hj : j < 6) (h0 : mpk m t = 0) : mpk (mpick m t ((z + 1 : Nat) : Int)) j = if j = t then ((z + 1 : Nat) : Int) else mpk m j := by
  rw [mpk_bt hj, bt_mpick ht hz (by omega), bt_mpick ht hz (by omega)]
  by_cases q : j = t
  · subst q
    rw [mpk_bt hj] at h0
    rw [if_pos rfl]
    have : z = 0 ∨ z = 1 := by omega
    revert h0
    cases bt m (6 + 2 * j) <;> cases bt m (7 + 2 * j) <;> intro h0 <;> first | (exact absurd h0 (by decide)) | (rcases this with q | q <;> subst q <;> simp [b2] <;> omega)
  · rw [if_neg q, mpk_bt hj]
    simp [show ¬ 6 + 2 * j = 6 + 2 * t + z by omega, show ¬ 7 + 2 * j = 6 + 2 * t + z by omega]
theorem SR.bind {s m : Int} {x v : Nat} (a : SR s m) (hx : x < 3) (hv : v < 4) : SR (st_bind s x v) (st_bind m x v) := by
  refine ⟨fun y hy => ?_, fun t ht => ?_⟩
  · rw [bound_bind hx hv hy, bound_bind hx hv hy, a.1 y hy]
  · rw [mpk_bind hx hv ht, cpk_bind hx hv ht, a.2 t ht]
theorem SR.pick {s m : Int} {t z : Nat} (a : SR s m) (vs : VS s) (ht : t < 6) (hz : z < 2) (h0 : cpk s t = 0) : SR (st_pick s t z) (mpick m t ((z + 1 : Nat) : Int)) := by
  have hb := vs t ht ((cpk_0 ht).1 h0)
  refine ⟨fun y hy => ?_, fun j hj => ?_⟩
  · rw [bound_mpick ht hz hy, bound_pick ht hz hy, a.1 y hy]
  · rw [mpk_mpick ht hz hj ((a.2 t ht).trans h0), cpk_pick ht hz hj hb, a.2 j hj]
theorem ev1_cg {fns : List FnT} {fc : Nat} {bd bd' : Int → Int} {pk pk' : Nat → Int} {acc : List (Int × Int)} {x : TmT} (hx : WTm fc acc.length x) (hb : ∀ y : Int, 0 ≤ y ∧ y ≤ 2 → bd y = bd' y) (hp : pk acc.length = pk' acc.length) : ev1 fns bd pk acc x = ev1 fns bd' pk' acc x := by
  rcases hx with ⟨e, h1, h2⟩ | ⟨e, h1, h2⟩ | ⟨e, ⟨h1, h2⟩, ⟨h3, h4⟩, h5, h6⟩
  · unfold ev1
    rw [if_pos e, if_pos e]
  · unfold ev1
    have e0 : ¬ x.1 = 0 := by omega
    rw [if_neg e0, if_pos e, if_neg e0, if_pos e, hb _ ⟨h1, h2⟩]
  · unfold ev1
    have e0 : ¬ x.1 = 0 := by omega
    have e1 : ¬ x.1 = 1 := by omega
    rw [if_neg e0, if_neg e1, if_neg e0, if_neg e1, hp]
theorem evp_cg {fns : List FnT} {tms : List TmT} {bd bd' : Int → Int} {pk pk' : Nat → Int} (hwf : WF fns tms) (hb : ∀ y : Int, 0 ≤ y ∧ y ≤ 2 → bd y = bd' y) : ∀ t, t ≤ tms.length → (∀ j, j < t → pk j = pk' j) → evp fns tms bd pk t = evp fns tms bd' pk' t
  | 0, _, _ => rfl
  | t + 1, h, hp => by
    unfold evp
    rw [evp_cg hwf hb t (by omega) (fun j hj => hp j (by omega)), ev1_cg (bd := bd) (bd' := bd') (pk := pk) (pk' := pk') (fc := fns.length) (by rw [evp_len]; exact hwf.2 t _ (gd_get tm0 (by omega))) hb (by rw [evp_len]; exact hp t (by omega))]
theorem evt_cg {fns : List FnT} {tms : List TmT} {bd bd' : Int → Int} {pk pk' : Nat → Int} {t : Nat} (hwf : WF fns tms) (hb : ∀ y : Int, 0 ≤ y ∧ y ≤ 2 → bd y = bd' y) (ht : t < tms.length) (hp : ∀ j, j ≤ t → pk j = pk' j) : evt fns tms bd pk t = evt fns tms bd' pk' t := by
  unfold evt
  rw [evp_cg hwf hb t (by omega) (fun j hj => hp j (by omega)), ev1_cg (bd := bd) (bd' := bd') (pk := pk) (pk' := pk') (fc := fns.length) (by rw [evp_len]; exact hwf.2 t _ (gd_get tm0 (by omega))) hb (by rw [evp_len]; exact hp t (by omega))]
/-- what the term t comes to in a stand of the model -/
def mev (fns : List FnT) (tms : List TmT) (t : Nat) (m : Int) : Int × Int := evt fns tms (cbd m) (mpk m) t
theorem SR.ev {fns : List FnT} {tms : List TmT} {t : Nat} {s m : Int} (a : SR s m) (hwf : WF fns tms) (hl : tms.length ≤ 6) (ht : t < tms.length) : mev fns tms t m = evS fns tms t s := by
  refine evt_cg hwf (fun y hy => ?_) ht (fun j hj => a.2 j (by omega))
  have := a.1 y.toNat (by omega)
  rw [Int.toNat_of_nonneg hy.1] at this
  exact this
/-- steps of a stand -/
def stp (gs : List Int) (s : Int) : Int := sm 3 (bsc gs s) + bits6 (st_picked s)
def GI (gs : List Int) (s : Int) : Prop := ∀ x : Nat, x < 3 → gs.getD x 0 ≠ 3 → st_bound s x = gs.getD x 0
def SI (gs : List Int) (c : Nat) (s : Int) : Prop := VS s ∧ GI gs s ∧ ∀ t, c ≤ t → t < 6 → bt s (6 + t) = false
theorem bits6_k : ∀ x : Fin 64, bits6 (x.val : Int) = b2 (bt (x.val : Int) 0) + b2 (bt (x.val : Int) 1) + b2 (bt (x.val : Int) 2) + b2 (bt (x.val : Int) 3) + b2 (bt (x.val : Int) 4) + b2 (bt (x.val : Int) 5) := by decide +kernel
theorem picked_i {s : Int} {i : Nat} (hi : i < 6) : bt (st_picked s) i = bt s (6 + i) := by
  unfold st_picked
  rw [bt_and, bt_63 ⟨i, by omega⟩, show (6 : Int) = ((6 : Nat) : Int) from rfl, bt_shr (by omega)]
  simp [hi]
theorem second_i {s : Int} {i : Nat} (hi : i < 6) : bt (st_second s) i = bt s (12 + i) := by
  unfold st_second
  rw [bt_and, bt_63 ⟨i, by omega⟩, show (12 : Int) = ((12 : Nat) : Int) from rfl, bt_shr (by omega)]
  simp [hi]
theorem bits6_bt {s : Int} : bits6 (st_picked s) = b2 (bt s 6) + b2 (bt s 7) + b2 (bt s 8) + b2 (bt s 9) + b2 (bt s 10) + b2 (bt s 11) := by
  have h6 : 0 ≤ st_picked s ∧ st_picked s < 64 := and63 _
  have e := bits6_k ⟨(st_picked s).toNat, by omega⟩
  dsimp only at e
  rw [Int.toNat_of_nonneg h6.1, picked_i (by omega), picked_i (by omega), picked_i (by omega), picked_i (by omega), picked_i (by omega), picked_i (by omega)] at e
  exact e
theorem stp_bind {gs : List Int} {s : Int} {x v : Nat} (hx : x < 3) (hv : v < 3) (h3 : st_bound s x = 3) (gi : GI gs s) : stp gs (st_bind s x v) = stp gs s + 1 := by
  have hg : gs.getD x 0 = 3 := by
    rcases Decidable.em (gs.getD x 0 = 3) with q | q
    · exact q
    · have := gi x hx q; omega
  have e : ∀ j, j < 3 → bsc gs (st_bind s x v) j = bsc gs s j + (if j = x then 1 else 0) := by
    intro j hj
    unfold bsc
    rw [bound_bind hx (by omega) hj]
    by_cases q : j = x
    · subst q
      rw [if_pos rfl, if_pos rfl, if_pos ⟨hg, by omega⟩, if_neg (by omega)]
      rfl
    · rw [if_neg q, if_neg q, Int.add_zero]
  unfold stp
  rw [bits6_bt, bits6_bt, bt_bind hx (by omega) (by omega), bt_bind hx (by omega) (by omega), bt_bind hx (by omega) (by omega), bt_bind hx (by omega) (by omega), bt_bind hx (by omega) (by omega), bt_bind hx (by omega) (by omega)]
  repeat rw [if_neg (by omega)]
  show 0 + bsc gs (st_bind s x v) 0 + bsc gs (st_bind s x v) 1 + bsc gs (st_bind s x v) 2 + _ = 0 + bsc gs s 0 + bsc gs s 1 + bsc gs s 2 + _ + 1
  rw [e 0 (by omega), e 1 (by omega), e 2 (by omega)]
  have : x = 0 ∨ x = 1 ∨ x = 2 := by omega
  rcases this with q | q | q <;> subst q <;> simp <;> omega
theorem stp_pick {gs : List Int} {s : Int} {t z : Nat} (ht : t < 6) (hz : z < 2) (h0 : cpk s t = 0) : stp gs (st_pick s t z) = stp gs s + 1 := by
  have hb := (cpk_0 ht).1 h0
  have e : sm 3 (bsc gs (st_pick s t z)) = sm 3 (bsc gs s) := sm_cg 3 (fun j hj => by unfold bsc; rw [bound_pick ht hz hj])
  have eb : ∀ j, j < 6 → b2 (bt (st_pick s t z) (6 + j)) = b2 (bt s (6 + j)) + (if j = t then 1 else 0) := by
    intro j hj
    rw [bt_pick ht hz (by omega)]
    by_cases q : j = t
    · subst q
      rw [hb]
      simp [b2]
    · simp [q, show ¬ 6 + j = 12 + t by omega]
  have e0 := eb 0 (by omega)
  have e1 := eb 1 (by omega)
  have e2 := eb 2 (by omega)
  have e3 := eb 3 (by omega)
  have e4 := eb 4 (by omega)
  have e5 := eb 5 (by omega)
  unfold stp
  rw [e, bits6_bt, bits6_bt]
  have : t = 0 ∨ t = 1 ∨ t = 2 ∨ t = 3 ∨ t = 4 ∨ t = 5 := by omega
  rcases this with q | q | q | q | q | q <;> subst q <;> simp at e0 e1 e2 e3 e4 e5 ⊢ <;> omega
theorem SI.bind {gs : List Int} {c : Nat} {s : Int} {x v : Nat} (a : SI gs c s) (hx : x < 3) (hv : v < 3) (h3 : st_bound s x = 3) : SI gs c (st_bind s x v) := by
  refine ⟨a.1.bind hx (by omega), fun y hy hg => ?_, fun t h1 h2 => ?_⟩
  · rw [bound_bind hx (by omega) hy]
    by_cases q : y = x
    · subst q
      have := a.2.1 y hy hg
      omega
    · rw [if_neg q]; exact a.2.1 y hy hg
  · rw [bt_bind hx (by omega) (by omega), if_neg (by omega), if_neg (by omega)]
    exact a.2.2 t h1 h2
theorem SI.pick {gs : List Int} {c : Nat} {s : Int} {t z : Nat} (a : SI gs c s) (ht : t < 6) (hc : t < c) (hz : z < 2) : SI gs c (st_pick s t z) := by
  refine ⟨a.1.pick ht hz, fun y hy hg => ?_, fun j h1 h2 => ?_⟩
  · rw [bound_pick ht hz hy]; exact a.2.1 y hy hg
  · rw [bt_pick ht hz (by omega), a.2.2 j h1 h2]
    simp [show ¬ j = t by omega, show ¬ 6 + j = 12 + t by omega]
theorem bound_st0 {gs : List Int} (hg : GS gs) {x : Nat} (hx : x < 3) : st_bound (st0 gs) x = gs.getD x 0 := by
  have h0 := hg 0 (by omega)
  have h1 := hg 1 (by omega)
  have h2 := hg 2 (by omega)
  rw [st0_cast hg, bound_bind (by omega) (by omega) hx, bound_bind (by omega) (by omega) hx, bound_bind (by omega) (by omega) hx]
  have : x = 0 ∨ x = 1 ∨ x = 2 := by omega
  rcases this with q | q | q <;> subst q
  · rw [if_neg (by decide), if_neg (by decide), if_pos rfl, Int.toNat_of_nonneg h0.1]
  · rw [if_neg (by decide), if_pos rfl, Int.toNat_of_nonneg h1.1]
  · rw [if_pos rfl, Int.toNat_of_nonneg h2.1]
theorem bt_st0 {gs : List Int} (hg : GS gs) {t : Nat} (ht : 6 ≤ t) (h32 : t < 32) : bt (st0 gs) t = false := by
  have h0 := hg 0 (by omega)
  have h1 := hg 1 (by omega)
  have h2 := hg 2 (by omega)
  rw [st0_cast hg, bt_bind (by omega) (by omega) (by omega), bt_bind (by omega) (by omega) (by omega), bt_bind (by omega) (by omega) (by omega)]
  repeat rw [if_neg (by omega)]
  have := bt_63 ⟨t, h32⟩
  dsimp only at this
  rw [this]
  simp
  omega
theorem st0_SI {gs : List Int} (hg : GS gs) (c : Nat) : SI gs c (st0 gs) := ⟨st0_VS hg, fun x hx _ => bound_st0 hg hx, fun t _ ht => bt_st0 hg (by omega) (by omega)⟩
theorem stp_st0 {gs : List Int} (hg : GS gs) : stp gs (st0 gs) = 0 := by
  unfold stp
  rw [bits6_bt]
  repeat rw [bt_st0 hg (by omega) (by omega)]
  show 0 + bsc gs (st0 gs) 0 + bsc gs (st0 gs) 1 + bsc gs (st0 gs) 2 + _ = 0
  unfold bsc
  rw [show ((0 : Nat) : Int) = 0 from rfl] at *
  have e0 := bound_st0 hg (x := 0) (by omega)
  have e1 := bound_st0 hg (x := 1) (by omega)
  have e2 := bound_st0 hg (x := 2) (by omega)
  rw [show ((0 : Nat) : Int) = 0 from rfl] at e0
  rw [show ((1 : Nat) : Int) = 1 from rfl] at e1
  rw [show ((2 : Nat) : Int) = 2 from rfl] at e2
  rw [e0, show ((1 : Nat) : Int) = 1 from rfl, e1, show ((2 : Nat) : Int) = 2 from rfl, e2]
  rw [if_neg (by omega), if_neg (by omega), if_neg (by omega)]
  decide
/-- the model's first stand -/
def mfs (gs : List Int) : Int := am_or (am_or (gs.getD 0 0) (am_shl (gs.getD 1 0) 2)) (am_shl (gs.getD 2 0) 4)
theorem mfs_k : ∀ (a b c : Fin 4), (st_bound (am_or (am_or (a.val : Int) (am_shl (b.val : Int) 2)) (am_shl (c.val : Int) 4)) 0 = a.val ∧ st_bound (am_or (am_or (a.val : Int) (am_shl (b.val : Int) 2)) (am_shl (c.val : Int) 4)) 1 = b.val ∧ st_bound (am_or (am_or (a.val : Int) (am_shl (b.val : Int) 2)) (am_shl (c.val : Int) 4)) 2 = c.val) ∧ ∀ t : Fin 6, mpk (am_or (am_or (a.val : Int) (am_shl (b.val : Int) 2)) (am_shl (c.val : Int) 4)) t.val = 0 := by decide +kernel
theorem mfs_SR {gs : List Int} (hg : GS gs) : SR (st0 gs) (mfs gs) := by
  have h0 := hg 0 (by omega)
  have h1 := hg 1 (by omega)
  have h2 := hg 2 (by omega)
  have k := mfs_k ⟨(gs.getD 0 0).toNat, by omega⟩ ⟨(gs.getD 1 0).toNat, by omega⟩ ⟨(gs.getD 2 0).toNat, by omega⟩
  dsimp only at k
  rw [Int.toNat_of_nonneg h0.1, Int.toNat_of_nonneg h1.1, Int.toNat_of_nonneg h2.1] at k
  refine ⟨fun x hx => ?_, fun t ht => ?_⟩
  · rw [bound_st0 hg hx]
    have : x = 0 ∨ x = 1 ∨ x = 2 := by omega
    rcases this with q | q | q <;> subst q
    · exact k.1.1
    · exact k.1.2.1
    · exact k.1.2.2
  · rw [(cpk_0 ht).2 (bt_st0 hg (by omega) (by omega))]
    exact k.2 ⟨t, ht⟩
/-- every stand of a row -/
theorem nx_SI {fns : List FnT} {tms : List TmT} {gs : List Int} {t : Nat} {s : Int} (hwf : WF fns tms) (hl : tms.length ≤ 6) (ht : t < tms.length) (hs : SI gs tms.length s) : ∀ s', s' ∈ nx s (evS fns tms t s).1 → SI gs tms.length s' := by
  have hb : ∀ x, 0 ≤ x ∧ x ≤ 2 → 0 ≤ cbd s x ∧ cbd s x ≤ 3 := fun x _ => am_and3 _
  obtain ⟨n1, n2⟩ := evt_need (bd := cbd s) (pk := cpk s) hwf hl hb t ht
  unfold evS
  generalize (evt fns tms (cbd s) (cpk s) t).1 = o at *
  intro s' m
  unfold nx at m
  by_cases q : 8 ≤ o
  · obtain ⟨j, h1, h2, h3, h4⟩ := n2 q
    rw [if_pos q, show o - 8 = (j : Int) by omega] at m
    simp only [List.mem_cons, List.not_mem_nil, or_false] at m
    rcases m with m | m
    · rw [m]; exact hs.pick (z := 0) (by omega) h1 (by omega)
    · rw [m]; exact hs.pick (z := 1) (by omega) h1 (by omega)
  · by_cases q1 : 4 ≤ o
    · obtain ⟨x, h1, h2, h3, h4⟩ := n1 q1 (by omega)
      rw [if_neg q, if_pos q1, show o - 4 = (x : Int) by omega] at m
      simp only [List.mem_cons, List.not_mem_nil, or_false] at m
      rcases m with m | m | m
      · rw [m]; exact hs.bind (v := 0) h1 (by omega) h3
      · rw [m]; exact hs.bind (v := 1) h1 (by omega) h3
      · rw [m]; exact hs.bind (v := 2) h1 (by omega) h3
    · rw [if_neg q, if_neg q1] at m
      exact absurd m (by simp)
theorem rwL_SI {fns : List FnT} {tms : List TmT} {gs : List Int} {t : Nat} {s0 : Int} (hwf : WF fns tms) (hl : tms.length ≤ 6) (ht : t < tms.length) (hs : SI gs tms.length s0) : ∀ k, ∀ s ∈ rwL fns tms t s0 k, SI gs tms.length s
  | 0, s, m => by
    have : s = s0 := by simpa [rwL] using m
    rw [this]; exact hs
  | k + 1, s, m => by
    unfold rwL at m
    by_cases q : k < (rwL fns tms t s0 k).length
    · rw [if_pos q, List.mem_append] at m
      rcases m with m | m
      · exact rwL_SI hwf hl ht hs k s m
      · refine nx_SI hwf hl ht (rwL_SI hwf hl ht hs k _ ?_) s m
        rw [gd_some (List.getElem?_eq_getElem q)]
        exact List.getElem_mem q
    · rw [if_neg q] at m
      exact rwL_SI hwf hl ht hs k s m
theorem gd_mem {L : List Int} {i : Nat} (h : i < L.length) : L.getD i 0 ∈ L := by
  rw [gd_some (List.getElem?_eq_getElem h)]
  exact List.getElem_mem h
