/-! ODDS 6: the row and all throws -/
theorem okD_Rg {gs : List Int} {T : Nat} {L : List Int} (h : okD (Rg gs T) L) : (∀ x, x < 3 → (ug gs x).1 ≤ L.getD x 0 ∧ L.getD x 0 ≤ (ug gs x).2) ∧ ∀ t, t < T → 1 ≤ L.getD (3 + t) 0 ∧ L.getD (3 + t) 0 ≤ 2 := by
  have rep : ∀ {k : Nat} {r : List Int}, okD (List.replicate k (1, 2)) r → ∀ t, t < k → 1 ≤ r.getD t 0 ∧ r.getD t 0 ≤ 2 := by
    intro k
    induction k with
    | zero => intro r _ t ht; omega
    | succ k ih =>
      intro r hr t ht
      cases r with
      | nil => exact hr.elim
      | cons a b =>
        cases t with
        | zero => exact hr.1
        | succ t => exact ih hr.2 t (by omega)
  match L, h with
  | d0 :: d1 :: d2 :: D, h =>
    obtain ⟨h0, h1, h2, h3⟩ := h
    refine ⟨fun x hx => ?_, fun t ht => ?_⟩
    · rcases (by omega : x = 0 ∨ x = 1 ∨ x = 2) with q | q | q <;> subst q
      · exact h0
      · exact h1
      · exact h2
    · rw [show 3 + t = t + 1 + 1 + 1 by omega]
      exact rep h3 t ht
section
variable {fns : List FnT} {tms : List TmT} {gs : List Int} {t : Nat} {v : Int}
def phi (fns : List FnT) (tms : List TmT) (t : Nat) (v : Int) (L : List Int) : Nat := if (mev fns tms t (cod L)).1 = v then 1 else 0
noncomputable def NN (fns : List FnT) (tms : List TmT) (gs : List Int) (t : Nat) (v s : Int) : Nat := sN (bx (Rg gs tms.length)) (fun i => ag tms.length s (enm (Rg gs tms.length) i) * phi fns tms t v (enm (Rg gs tms.length) i))
noncomputable def XX (tms : List TmT) (gs : List Int) (s : Int) : Nat := sN (bx (Rg gs tms.length)) (fun i => ag tms.length s (enm (Rg gs tms.length) i))
theorem phi_ag {s : Int} {L : List Int} (hwf : WF fns tms) (hl : tms.length ≤ 6) (ht : t < tms.length) (dg : DG L) (h3 : (evS fns tms t s).1 ≤ 3) : ag tms.length s L * phi fns tms t v L = if (evS fns tms t s).1 = v then ag tms.length s L else 0 := by
  by_cases q : AGP tms.length s L
  · rw [ag_1 q]
    have := evt_mo (bd := cbd s) (pk := cpk s) (bd' := cbd (cod L)) (pk' := mpk (cod L)) hwf hl (fun x _ => am_and3 _) (fun x hx hn => ?_) (fun j hj hn => ?_) t ht h3
    · have this : (mev fns tms t (cod L)).1 = (evS fns tms t s).1 := this
      unfold phi
      rw [this, Nat.one_mul]
    · have h1 := q.1 x.toNat (by omega)
      rw [Int.toNat_of_nonneg hx.1] at h1
      have h2 := bound_cod dg (x := x.toNat) (by omega)
      rw [Int.toNat_of_nonneg hx.1] at h2
      exact h2.trans (h1 hn)
    · rw [mpk_cod dg (by omega)]
      exact q.2 j hj hn
  · rw [ag_0 q, Nat.zero_mul]
    split <;> rfl
theorem NN_leaf {s : Int} (hwf : WF fns tms) (hl : tms.length ≤ 6) (ht : t < tms.length) (hg : GS gs) (h3 : (evS fns tms t s).1 ≤ 3) : NN fns tms gs t v s = if (evS fns tms t s).1 = v then XX tms gs s else 0 := by
  unfold NN XX
  by_cases q : (evS fns tms t s).1 = v
  · rw [if_pos q]
    refine sN_cg _ (fun i hi => ?_)
    rw [phi_ag hwf hl ht (enm_DG (Rg_VR hg _)) h3, if_pos q]
  · rw [if_neg q, ← sN_z (bx (Rg gs tms.length))]
    refine sN_cg _ (fun i hi => ?_)
    rw [phi_ag hwf hl ht (enm_DG (Rg_VR hg _)) h3, if_neg q]
theorem NN_nx {s : Int} (hwf : WF fns tms) (hl : tms.length ≤ 6) (ht : t < tms.length) (hg : GS gs) (si : SI gs tms.length s) (h3 : ¬ (evS fns tms t s).1 ≤ 3) : ((nx s (evS fns tms t s).1).map (NN fns tms gs t v)).sum = NN fns tms gs t v s := by
  have hb : ∀ x, 0 ≤ x ∧ x ≤ 2 → 0 ≤ cbd s x ∧ cbd s x ≤ 3 := fun x _ => am_and3 _
  have hr := evt_rng (bd := cbd s) (pk := cpk s) hwf hl hb t ht
  obtain ⟨n1, n2⟩ := evt_need (bd := cbd s) (pk := cpk s) hwf hl hb t ht
  have vr := Rg_VR hg tms.length
  unfold evS at h3 ⊢
  generalize (evt fns tms (cbd s) (cpk s) t).1 = o at *
  unfold nx
  by_cases q : 8 ≤ o
  · obtain ⟨j, h1, h2, h4, h5⟩ := n2 q
    rw [if_pos q, show o - 8 = (j : Int) by omega]
    simp only [List.map_cons, List.map_nil, List.sum_cons, List.sum_nil, Nat.add_zero]
    unfold NN
    rw [← sN_add]
    refine sN_cg _ (fun i hi => ?_)
    have od := (okD_Rg (enm_ok (i := i) vr)).2 j h1
    rw [← Nat.add_mul, ag_pick2 hl h1 si.1 h5 od]
  · obtain ⟨x, h1, h2, h4, h5⟩ := n1 (by omega) (by omega)
    rw [if_neg q, if_pos (by omega), show o - 4 = (x : Int) by omega]
    simp only [List.map_cons, List.map_nil, List.sum_cons, List.sum_nil, Nat.add_zero]
    unfold NN
    rw [← sN_add, ← sN_add]
    refine sN_cg _ (fun i hi => ?_)
    have od := (okD_Rg (enm_ok (i := i) vr)).1 x h1
    have hg3 : gs.getD x 0 = 3 := by
      rcases Decidable.em (gs.getD x 0 = 3) with z | z
      · exact z
      · have := si.2.1 x h1 z
        have h4 : st_bound s x = 3 := h4
        omega
    have eu : ug gs x = (0, 2) := by unfold ug; rw [if_pos hg3]
    rw [eu] at od
    have := ag_bind3 (T := tms.length) (L := enm (Rg gs tms.length) i) hl h1 h4 od
    rw [← Nat.add_mul, ← Nat.add_mul, ← Nat.add_assoc, this]
def fN (e : Int → Int × Int) (N : Int → Nat) (a : Nat) (s : Int) : Nat := if (e s).1 ≤ 3 then a + N s else a
theorem NN_row (hwf : WF fns tms) (hl : tms.length ≤ 6) (ht : t < tms.length) (hg : GS gs) : ∀ j, j ≤ (rwL fns tms t (st0 gs) j).length → fo (fN (evS fns tms t) (NN fns tms gs t v)) 0 (rwL fns tms t (st0 gs) j) j + (((rwL fns tms t (st0 gs) j).drop j).map (NN fns tms gs t v)).sum = NN fns tms gs t v (st0 gs)
  | 0, _ => by
    show 0 + ([st0 gs].map (NN fns tms gs t v)).sum = _
    simp
  | j + 1, hj => by
    have hjl : j < (rwL fns tms t (st0 gs) j).length := by
      rcases Nat.lt_or_ge j (rwL fns tms t (st0 gs) j).length with q | q
      · exact q
      · rw [rwL, if_neg (by omega)] at hj; omega
    have ih := NN_row hwf hl ht hg j (by omega)
    have eN : rwL fns tms t (st0 gs) (j + 1) = rwL fns tms t (st0 gs) j ++ nx ((rwL fns tms t (st0 gs) j).getD j 0) (evS fns tms t ((rwL fns tms t (st0 gs) j).getD j 0)).1 := by rw [rwL, if_pos hjl]
    have si := rwL_SI hwf hl ht (st0_SI hg tms.length) j _ (gd_mem hjl)
    rw [eN, fo_s, gd_al hjl, fo_cg (L := rwL fns tms t (st0 gs) j ++ _) (M := rwL fns tms t (st0 gs) j) j (fun i hi => gd_al (by omega))]
    generalize rwL fns tms t (st0 gs) j = L at *
    have sd := sum_drop (W := NN fns tms gs t v) (L := L) (M := nx (L.getD j 0) (evS fns tms t (L.getD j 0)).1) hjl
    by_cases q : (evS fns tms t (L.getD j 0)).1 ≤ 3
    · have em : nx (L.getD j 0) (evS fns tms t (L.getD j 0)).1 = [] := by unfold nx; rw [if_neg (by omega), if_neg (by omega)]
      rw [em] at sd ⊢
      rw [show fN (evS fns tms t) (NN fns tms gs t v) (fo (fN (evS fns tms t) (NN fns tms gs t v)) 0 L j) (L.getD j 0) = fo (fN (evS fns tms t) (NN fns tms gs t v)) 0 L j + NN fns tms gs t v (L.getD j 0) from if_pos q]
      simp only [List.map_nil, List.sum_nil, Nat.add_zero] at sd
      omega
    · have em := NN_nx (v := v) hwf hl ht hg si q
      rw [em] at sd
      rw [show fN (evS fns tms t) (NN fns tms gs t v) (fo (fN (evS fns tms t) (NN fns tms gs t v)) 0 L j) (L.getD j 0) = fo (fN (evS fns tms t) (NN fns tms gs t v)) 0 L j from if_neg q]
      omega
theorem NN_0 (hl : tms.length ≤ 6) (hg : GS gs) : NN fns tms gs t v (st0 gs) = sN (bx (Rg gs tms.length)) (fun i => phi fns tms t v (enm (Rg gs tms.length) i)) := by
  unfold NN
  refine sN_cg _ (fun i hi => ?_)
  have od := okD_Rg (enm_ok (i := i) (Rg_VR hg tms.length))
  rw [ag_1, Nat.one_mul]
  refine ⟨fun x hx hn => ?_, fun j hj hn => ?_⟩
  · rw [bound_st0 hg hx] at hn ⊢
    have := od.1 x hx
    have eu : ug gs x = (gs.getD x 0, gs.getD x 0) := by unfold ug; rw [if_neg hn]
    rw [eu] at this
    dsimp only at this
    omega
  · exact absurd ((cpk_0 (by omega)).2 (bt_st0 hg (by omega) (by omega))) hn
theorem thr_ext {s : Int} (hl : tms.length ≤ 6) (hg : GS gs) (si : SI gs tms.length s) : thr gs s * (bx (Rg gs tms.length) : Int) = 1728 * (XX tms gs s : Int) := by
  have e := ext_ok hg hl si
  have hb := bits6_rng (and63 (am_shr s 6))
  have hc := bsc_rng (gs := gs) (s := s)
  change 0 ≤ bits6 (st_picked s) ∧ bits6 (st_picked s) ≤ 6 at hb
  have k : ∀ (b : Fin 7) (c : Fin 4), (1728 : Int) / 2 ^ b.val / 3 ^ c.val * ((3 ^ c.val * 2 ^ b.val : Nat) : Int) = 1728 := by decide +kernel
  have k1 := k ⟨(bits6 (st_picked s)).toNat, by omega⟩ ⟨(sm 3 (bsc gs s)).toNat, by omega⟩
  dsimp only at k1
  have k2 : thr gs s * ((3 ^ (sm 3 (bsc gs s)).toNat * 2 ^ (bits6 (st_picked s)).toNat : Nat) : Int) = 1728 := k1
  have e : XX tms gs s * (3 ^ (sm 3 (bsc gs s)).toNat * 2 ^ (bits6 (st_picked s)).toNat) = bx (Rg gs tms.length) := e
  rw [← e, Int.natCast_mul, Int.mul_comm (XX tms gs s : Int), ← Int.mul_assoc, k2]
theorem odds_ok (hwf : WF fns tms) (hl : tms.length ≤ 6) (ht : t < tms.length) (hg : GS gs) (hv : v ≤ 3) : ((sN (bx (Rg gs tms.length)) (fun i => phi fns tms t v (enm (Rg gs tms.length) i)) : Nat) : Int) * 1728 = oddU fns tms gs t v * (bx (Rg gs tms.length) : Int) := by
  have key : ∀ (L : List Int), (∀ s ∈ L, SI gs tms.length s) → ∀ j, j ≤ L.length → fo (fTh gs (evS fns tms t) v) 0 L j * (bx (Rg gs tms.length) : Int) = 1728 * ((fo (fN (evS fns tms t) (NN fns tms gs t v)) 0 L j : Nat) : Int) := by
    intro L hL j
    induction j with
    | zero => intro _; show 0 * _ = 1728 * ((0 : Nat) : Int); simp
    | succ j ih =>
      intro hj
      have ih := ih (by omega)
      have si := hL _ (gd_mem (L := L) (i := j) (by omega))
      rw [fo_s, fo_s]
      by_cases q : (evS fns tms t (L.getD j 0)).1 ≤ 3
      · rw [show fN (evS fns tms t) (NN fns tms gs t v) (fo (fN (evS fns tms t) (NN fns tms gs t v)) 0 L j) (L.getD j 0) = fo (fN (evS fns tms t) (NN fns tms gs t v)) 0 L j + NN fns tms gs t v (L.getD j 0) from if_pos q, NN_leaf hwf hl ht hg q]
        by_cases z : (evS fns tms t (L.getD j 0)).1 = v
        · rw [fTh_1 z, if_pos z, Int.add_mul, Int.natCast_add, Int.mul_add, ih, thr_ext hl hg si]
        · rw [fTh_0 z, if_neg z, Nat.add_zero]
          exact ih
      · rw [show fN (evS fns tms t) (NN fns tms gs t v) (fo (fN (evS fns tms t) (NN fns tms gs t v)) 0 L j) (L.getD j 0) = fo (fN (evS fns tms t) (NN fns tms gs t v)) 0 L j from if_neg q, fTh_0 (by omega)]
        exact ih
  have hrow : ∀ L : List Int, L = row1 fns tms gs t → fo (fN (evS fns tms t) (NN fns tms gs t v)) 0 L L.length = NN fns tms gs t v (st0 gs) := by
    intro L eL
    have h418 : ∀ m j, m + j = 418 → j ≤ (rwL fns tms t (st0 gs) j).length → ∃ i, i ≤ 418 ∧ (rwL fns tms t (st0 gs) i).length = i := by
      intro m
      induction m with
      | zero =>
        intro j hj hle
        have := rwL_418 (t := t) hwf hl ht (st0_VS hg) hle
        exact ⟨j, by omega, by omega⟩
      | succ m ihm =>
        intro j hj hle
        rcases Nat.lt_or_ge j (rwL fns tms t (st0 gs) j).length with q | q
        · refine ihm (j + 1) (by omega) ?_
          rw [rwL, if_pos q, List.length_append]
          omega
        · exact ⟨j, by omega, by omega⟩
    obtain ⟨i, hi, ei⟩ := h418 418 0 (by omega) (by omega)
    have er : row1 fns tms gs t = rwL fns tms t (st0 gs) i := by
      unfold row1 rowL
      rw [show 418 = i + (418 - i) by omega, rwL_end (by omega)]
    have := NN_row (v := v) hwf hl ht hg i (by omega)
    rw [← er] at this ei
    rw [List.drop_of_length_le (by omega)] at this
    rw [eL, ei]
    simpa using this
  have k1 := key (row1 fns tms gs t) (fun s hs => row1_SI hwf hl ht hg hs) _ (Nat.le_refl _)
  rw [hrow _ rfl, NN_0 hl hg] at k1
  unfold oddU
  rw [k1, Int.mul_comm]
end
theorem low_t {n D U A : Nat} (hD : 0 < D) (hA : 0 < A) (h : n * D = U * A) : n / Nat.gcd n A = U / Nat.gcd U D ∧ A / Nat.gcd n A = D / Nat.gcd U D := by
  have e : Nat.gcd n A * D = Nat.gcd U D * A := by
    rw [← Nat.gcd_mul_right, ← Nat.gcd_mul_right, h, Nat.mul_comm A D]
  constructor
  · rw [← Nat.mul_div_mul_right n (Nat.gcd n A) hD, h, e, Nat.mul_div_mul_right _ _ hA]
  · rw [← Nat.mul_div_mul_right A (Nat.gcd n A) hD, e, Nat.mul_comm A D, Nat.mul_div_mul_right _ _ hA]
