/-! NORMAL FORM of functions: parts count where the twig branches alone -/
def nfp (tw pt : List Int) : List Int := (List.range 9).map (fun i => if tw.getD (i / 3) 0 = 14 then pt.getD i 0 else 0)
def nf (F : FnT) : FnT := (F.1, F.2.1, F.2.2.1, F.2.2.2.1, nfp F.2.2.2.1 F.2.2.2.2)
theorem nfp_len {tw pt : List Int} : (nfp tw pt).length = 9 := by unfold nfp; rw [List.length_map, List.length_range]
theorem nfp_get {tw pt : List Int} {i : Nat} (hi : i < 9) : (nfp tw pt).getD i 0 = if tw.getD (i / 3) 0 = 14 then pt.getD i 0 else 0 := by
  unfold nfp
  rw [List.getD_eq_getElem?_getD, List.getElem?_map, List.getElem?_range hi]
  rfl
theorem nf_get {fns : List FnT} {i : Nat} (hi : i < fns.length) : (fns.map nf).getD i fn0 = nf (fns.getD i fn0) := by
  rw [List.getD_eq_getElem?_getD, List.getElem?_map, gd_get fn0 hi]
  rfl
theorem WFn_nf {F : FnT} (a : WFn F) : WFn (nf F) := by
  obtain ⟨h1, h2, h3, h4, h5, h6⟩ := a
  refine ⟨h1, h2, h3, h4, nfp_len, fun v hv => ⟨(h6 v hv).1, fun e u hu => ?_⟩⟩
  have e' : F.2.2.2.1.getD v 0 = 14 := e
  have := (h6 v hv).2 e u hu
  show 0 ≤ (nfp F.2.2.2.1 F.2.2.2.2).getD (3 * v + u) 0 ∧ (nfp F.2.2.2.1 F.2.2.2.2).getD (3 * v + u) 0 ≤ 3
  rw [nfp_get (by omega), show (3 * v + u) / 3 = v by omega, if_pos e']
  exact this
theorem WF_nf {fns : List FnT} {tms : List TmT} (a : WF fns tms) : WF (fns.map nf) tms := by
  refine ⟨fun f F h => ?_, fun t x h => ?_⟩
  · rw [List.getElem?_map] at h
    cases e : fns[f]? with
    | none => rw [e] at h; exact absurd h (by simp)
    | some G =>
      rw [e] at h
      obtain rfl : nf G = F := by simpa using h
      exact WFn_nf (a.1 f G e)
  · rw [List.length_map]
    exact a.2 t x h
theorem ev1_nf {fns : List FnT} {tms : List TmT} {bd : Int → Int} {pk : Nat → Int} {acc : List (Int × Int)} {x : TmT} (hwf : WF fns tms) (hx : WTm fns.length acc.length x) (ha : ∀ j, j < acc.length → 0 ≤ (acc.getD j (3, 0)).1) : ev1 (fns.map nf) bd pk acc x = ev1 fns bd pk acc x := by
  rcases hx with ⟨e, h1, h2⟩ | ⟨e, h1, h2⟩ | ⟨e, ⟨h1, h2⟩, ⟨h3, h4⟩, h5, h6⟩
  · unfold ev1
    rw [if_pos e, if_pos e]
  · unfold ev1
    have e0 : ¬ x.1 = 0 := by omega
    rw [if_neg e0, if_pos e, if_neg e0, if_pos e]
  · unfold ev1
    have e0 : ¬ x.1 = 0 := by omega
    have e1 : ¬ x.1 = 1 := by omega
    rw [if_neg e0, if_neg e1, if_neg e0, if_neg e1, nf_get (by omega)]
    have hF := hwf.1 _ _ (gd_get fn0 (i := x.2.1.toNat) (by omega))
    generalize fns.getD x.2.1.toNat fn0 = F at *
    dsimp only [nf]
    have hA := ha (if F.2.2.1 = 0 then x.2.2.1 else x.2.2.2).toNat (by split <;> omega)
    have hB := ha (if F.2.2.1 = 0 then x.2.2.2 else x.2.2.1).toNat (by split <;> omega)
    generalize acc.getD (if F.2.2.1 = 0 then x.2.2.1 else x.2.2.2).toNat (3, 0) = A at *
    generalize acc.getD (if F.2.2.1 = 0 then x.2.2.2 else x.2.2.1).toNat (3, 0) = B at *
    by_cases q : 3 ≤ A.1
    · rw [if_pos q, if_pos q]
    · rw [if_neg q, if_neg q]
      have htw := hF.2.2.2.2.2 A.1.toNat (by omega)
      by_cases q1 : F.2.2.2.1.getD A.1.toNat 0 < 3
      · rw [if_pos q1, if_pos q1]
      · rw [if_neg q1, if_neg q1]
        by_cases q2 : F.2.2.2.1.getD A.1.toNat 0 = 4
        · rw [if_pos q2, if_pos q2]
        · rw [if_neg q2, if_neg q2]
          by_cases q3 : 5 ≤ F.2.2.2.1.getD A.1.toNat 0 ∧ F.2.2.2.1.getD A.1.toNat 0 < 14
          · rw [if_pos q3, if_pos q3]
          · rw [if_neg q3, if_neg q3]
            by_cases q5 : F.2.2.2.1.getD A.1.toNat 0 = 3 ∨ 3 ≤ B.1
            · rw [if_pos q5, if_pos q5]
            · rw [if_neg q5, if_neg q5, nfp_get (by omega), show (3 * A.1 + B.1).toNat / 3 = A.1.toNat by omega, if_pos (by omega)]
theorem evp_nf {fns : List FnT} {tms : List TmT} {bd : Int → Int} {pk : Nat → Int} (hwf : WF fns tms) (hl : tms.length ≤ 6) (hb : ∀ x, 0 ≤ x ∧ x ≤ 2 → 0 ≤ bd x ∧ bd x ≤ 3) : ∀ t, t ≤ tms.length → evp (fns.map nf) tms bd pk t = evp fns tms bd pk t
  | 0, _ => rfl
  | t + 1, h => by
    unfold evp
    rw [evp_nf hwf hl hb t (by omega), ev1_nf hwf (by rw [evp_len]; exact hwf.2 t _ (gd_get tm0 (by omega))) (fun j hj => by
      rw [evp_len] at hj
      rw [evp_get t j hj]
      exact (evt_rng hwf hl hb j (by omega)).1)]
theorem evt_nf {fns : List FnT} {tms : List TmT} {bd : Int → Int} {pk : Nat → Int} (hwf : WF fns tms) (hl : tms.length ≤ 6) (hb : ∀ x, 0 ≤ x ∧ x ≤ 2 → 0 ≤ bd x ∧ bd x ≤ 3) {t : Nat} (ht : t < tms.length) : evt (fns.map nf) tms bd pk t = evt fns tms bd pk t := by
  unfold evt
  rw [evp_nf hwf hl hb t (by omega), ev1_nf hwf (by rw [evp_len]; exact hwf.2 t _ (gd_get tm0 (by omega))) (fun j hj => by
      rw [evp_len] at hj
      rw [evp_get t j hj]
      exact (evt_rng hwf hl hb j (by omega)).1)]
theorem evS_nf {fns : List FnT} {tms : List TmT} (hwf : WF fns tms) (hl : tms.length ≤ 6) {t : Nat} (ht : t < tms.length) : evS (fns.map nf) tms t = evS fns tms t := by
  funext s
  exact evt_nf hwf hl (fun x _ => am_and3 _) ht
theorem rwL_nf {fns : List FnT} {tms : List TmT} (hwf : WF fns tms) (hl : tms.length ≤ 6) {t : Nat} {s0 : Int} (ht : t < tms.length) : ∀ k, rwL (fns.map nf) tms t s0 k = rwL fns tms t s0 k
  | 0 => rfl
  | k + 1 => by
    unfold rwL
    rw [rwL_nf hwf hl ht k, evS_nf hwf hl ht]
theorem sm_cg {f g : Nat → Int} : ∀ i, (∀ j, j < i → f j = g j) → sm i f = sm i g
  | 0, _ => rfl
  | i + 1, h => by
    show sm i f + f i = sm i g + g i
    rw [sm_cg i (fun j hj => h j (by omega)), h i (by omega)]
theorem prc_nf {fns : List FnT} {tms : List TmT} (hwf : WF fns tms) (S : Int) : prc (fns.map nf) tms S = prc fns tms S := by
  unfold prc
  refine sm_cg _ (fun t ht => ?_)
  unfold prcT
  by_cases q : am_and (am_shr S t) 1 ≠ 0 ∧ (tms.getD t tm0).1 = 2
  · have hx := hwf.2 t _ (gd_get tm0 ht)
    rw [if_pos q, if_pos q, nf_get (by rcases hx with hx | hx | hx <;> omega)]
    rfl
  · rw [if_neg q, if_neg q]
theorem fLp_nf {fns : List FnT} {tms : List TmT} {e : Int → Int × Int} (hwf : WF fns tms) : fLp (fns.map nf) tms e = fLp fns tms e := by
  funext a s
  unfold fLp
  rw [prc_nf hwf]
/-- a function as it was read -/
def cfn (R : PrT) : FnT := (R.1, R.2.1, R.2.2.1, [(R.2.2.2.getD 0 tw0d).1, (R.2.2.2.getD 1 tw0d).1, (R.2.2.2.getD 2 tw0d).1], (List.range 9).map (fun i => if (R.2.2.2.getD (i / 3) tw0d).1 = 14 then (R.2.2.2.getD (i / 3) tw0d).2.getD (i % 3) 0 else 0))
theorem PrOk_nf {F : FnT} {R : PrT} (a : PrOk F R) : nf F = cfn R := by
  obtain ⟨a1, a2, a3, a4, a5⟩ := a
  have l3 : F.2.2.2.1.length = 3 := a4.2.2.2.1
  have t0 := a5 0 (by omega)
  have t1 := a5 1 (by omega)
  have t2 := a5 2 (by omega)
  have e1 : F.2.2.2.1 = [(R.2.2.2.getD 0 tw0d).1, (R.2.2.2.getD 1 tw0d).1, (R.2.2.2.getD 2 tw0d).1] := by
    refine gd_ext 0 (by simp [l3]) (fun i hi => ?_)
    rcases (by omega : i = 0 ∨ i = 1 ∨ i = 2) with e | e | e <;> subst e
    · exact t0.1
    · exact t1.1
    · exact t2.1
  have e2 : nfp F.2.2.2.1 F.2.2.2.2 = (List.range 9).map (fun i => if (R.2.2.2.getD (i / 3) tw0d).1 = 14 then (R.2.2.2.getD (i / 3) tw0d).2.getD (i % 3) 0 else 0) := by
    unfold nfp
    refine List.map_congr_left (fun i hi => ?_)
    have hi := List.mem_range.1 hi
    have tv := a5 (i / 3) (by omega)
    rw [tv.1]
    by_cases q : (R.2.2.2.getD (i / 3) tw0d).1 = 14
    · rw [if_pos q, if_pos q]
      have := (tv.2.2 (by rw [tv.1]; exact q) (i % 3) (by omega)).1
      rw [show 3 * (i / 3) + i % 3 = i by omega] at this
      exact this
    · rw [if_neg q, if_neg q]
  unfold nf cfn
  rw [a1, a2, a3, e2, ← e1]
