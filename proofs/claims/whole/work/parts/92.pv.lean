/-! WHAT HOLDS OF EVERY STATE -/
def PW (P : PS) : Prop := GS P.gs ∧ (P.fns = [] → P.tms = [] ∧ P.gs = [3, 3, 3]) ∧ P.rd.length ≤ 8 ∧ (∀ i, i < P.rd.length → 0 ≤ (P.rd.getD i rd0).1 ∧ (P.rd.getD i rd0).1 < P.tms.length) ∧ ∀ k la sz cs, P.sh k = some (la, sz, cs) → (0 ≤ la ∧ la ≤ 2) ∧ (0 ≤ sz ∧ sz ≤ 60) ∧ cs.length = 60 ∧ ∀ i, inR (cs.getD i 0)
theorem PV.w {P : PS} (v : PV P) : PW P := ⟨v.gs, v.no, v.lr, v.rt, v.sh⟩
theorem CR.pv {h : am_H} {P : PS} {fns : List FnT} (c : CR h P fns) (w : PW P) : PV P := by
  obtain ⟨l1, l2, F, T, hS, hF, hT⟩ := id c.wo
  refine ⟨by rw [c.len]; exact l1, l2, by rw [← c.nm]; exact WF_nf c.wf, w.1, hS.2.2.2.2.1, w.2.1, w.2.2.1, w.2.2.2.1, w.2.2.2.2⟩
section
variable {P : PS}
theorem PW.add {x : TmT} (v : PW P) (hn : P.fns ≠ []) : PW (addT P x).2 := by
  unfold addT
  split
  · exact v
  · refine ⟨v.1, fun e => absurd e hn, v.2.2.1, fun i hi => ?_, v.2.2.2.2⟩
    have := v.2.2.2.1 i hi
    refine ⟨this.1, ?_⟩
    have e : (P.tms ++ [x]).length = P.tms.length + 1 := by simp
    show (P.rd.getD i rd0).1 < ((P.tms ++ [x]).length : Int)
    omega
theorem pw_functions {k la i m : Int} (v : PW P) : PW (op_functions P k la i m).2 := by
  unfold op_functions
  split
  · exact v
  · split
    · exact v
    · split
      · exact v
      · split
        · exact v
        · exact ⟨fun x hx => by show 0 ≤ ([3, 3, 3] : List Int).getD x 0 ∧ ([3, 3, 3] : List Int).getD x 0 ≤ 3; rcases (by omega : x = 0 ∨ x = 1 ∨ x = 2) with e | e | e <;> subst e <;> decide, fun _ => ⟨rfl, rfl⟩, by show (0 : Nat) ≤ 8; omega, fun i hi => absurd hi (by show ¬ i < 0; omega), v.2.2.2.2⟩
theorem pw_leaf {so x : Int} (v : PW P) : PW (op_leaf P so x).2 := by
  unfold op_leaf
  split
  · exact v
  · next h =>
    split
    · exact v
    · exact v.add (fun z => h (by rw [z]; rfl))
theorem pw_apply {f a b : Int} (v : PW P) : PW (op_apply P f a b).2 := by
  unfold op_apply
  split
  · exact v
  · next h =>
    refine v.add (fun z => h (fun y => ?_))
    have := y.1
    unfold okF at this
    rw [z] at this
    have h2 : f < 0 := this.2
    omega
theorem pw_drop (v : PW P) : PW (op_drop P).2 := by
  unfold op_drop
  split
  · exact v
  · next h =>
    refine ⟨v.1, fun e => ?_, ?_, fun i hi => ?_, v.2.2.2.2⟩
    · have := (v.2.1 e).1
      rw [this] at h
      exact absurd rfl h
    · exact Nat.le_trans (List.length_filter_le _ _) v.2.2.1
    · have hi : i < (P.rd.filter (fun x : Int × Int => x.1 ≠ (P.tms.length : Int) - 1)).length := hi
      have m := List.getElem_mem hi
      rw [List.mem_filter] at m
      obtain ⟨m1, m2⟩ := m
      obtain ⟨j, hj, e⟩ := List.getElem_of_mem m1
      have r := v.2.2.2.1 j hj
      rw [gd_some (List.getElem?_eq_getElem hj), e] at r
      show 0 ≤ ((P.rd.filter (fun x : Int × Int => x.1 ≠ (P.tms.length : Int) - 1)).getD i rd0).1 ∧ ((P.rd.filter (fun x : Int × Int => x.1 ≠ (P.tms.length : Int) - 1)).getD i rd0).1 < (P.tms.dropLast.length : Int)
      rw [gd_some (List.getElem?_eq_getElem hi)]
      have m3 := of_decide_eq_true m2
      have e3 : P.tms.dropLast.length = P.tms.length - 1 := by simp
      rw [e3]
      omega
theorem pw_price {f x : Int} (v : PW P) : PW (op_price P f x).2 := by
  unfold op_price
  split
  · exact v
  · split
    · exact v
    · refine ⟨v.1, fun e => v.2.1 ?_, v.2.2.1, v.2.2.2.1, v.2.2.2.2⟩
      have e : P.fns.set f.toNat _ = [] := e
      have l := congrArg List.length e
      rw [List.length_set] at l
      cases z : P.fns with
      | nil => rfl
      | cons a b => rw [z] at l; simp at l
theorem pw_given {x y : Int} (v : PW P) (hl : P.gs.length = 3) : PW (op_given P x y).2 := by
  unfold op_given
  split
  · exact v
  · next h =>
    split
    · exact v
    · next h2 =>
      refine ⟨fun j hj => ?_, fun e => ?_, v.2.2.1, v.2.2.2.1, v.2.2.2.2⟩
      · show 0 ≤ (P.gs.set x.toNat y).getD j 0 ∧ (P.gs.set x.toNat y).getD j 0 ≤ 3
        by_cases e : j = x.toNat
        · rw [e, gd_ss (by omega)]; omega
        · rw [gd_sn (by omega)]; exact v.1 j hj
      · have e : P.fns = [] := e
        rw [e] at h
        exact absurd rfl h
theorem pw_reading {t x : Int} (v : PW P) : PW (op_reading P t x).2 := by
  unfold op_reading
  split
  · exact v
  · next h1 =>
    split
    · exact v
    · split
      · exact v
      · next h3 =>
        have l8 := v.2.2.1
        have e : (P.rd ++ [(t, x)]).length = P.rd.length + 1 := by simp
        refine ⟨v.1, v.2.1, ?_, fun i hi => ?_, v.2.2.2.2⟩
        · show (P.rd ++ [(t, x)]).length ≤ 8
          omega
        · have hi : i < (P.rd ++ [(t, x)]).length := hi
          show 0 ≤ ((P.rd ++ [(t, x)]).getD i rd0).1 ∧ ((P.rd ++ [(t, x)]).getD i rd0).1 < (P.tms.length : Int)
          by_cases z : i = P.rd.length
          · rw [gd_ar z]
            show 0 ≤ t ∧ t < (P.tms.length : Int)
            unfold okT at h1
            omega
          · rw [gd_al (by omega)]
            exact v.2.2.2.1 i (by omega)
theorem pw_back {m : Int} (v : PW P) : PW (op_back P m).2 := by
  unfold op_back
  split
  · exact v
  · refine ⟨v.1, v.2.1, ?_, fun i hi => ?_, v.2.2.2.2⟩
    · show (P.rd.take (P.rd.length - m.toNat)).length ≤ 8
      have := v.2.2.1
      rw [List.length_take]
      omega
    · have hi : i < (P.rd.take (P.rd.length - m.toNat)).length := hi
      rw [List.length_take] at hi
      show 0 ≤ ((P.rd.take (P.rd.length - m.toNat)).getD i rd0).1 ∧ ((P.rd.take (P.rd.length - m.toNat)).getD i rd0).1 < (P.tms.length : Int)
      rw [gd_tk (by omega)]
      exact v.2.2.2.1 i (by omega)
theorem PW.sht {k : Nat} {x : Option ShT} (v : PW P) (hx : ∀ la sz cs, x = some (la, sz, cs) → (0 ≤ la ∧ la ≤ 2) ∧ (0 ≤ sz ∧ sz ≤ 60) ∧ cs.length = 60 ∧ ∀ i, inR (cs.getD i 0)) : PW (setS P k x) := by
  refine ⟨v.1, v.2.1, v.2.2.1, v.2.2.2.1, fun j la sz cs e => ?_⟩
  have e : (if j = k then x else P.sh j) = some (la, sz, cs) := e
  split at e
  · exact hx la sz cs e
  · exact v.2.2.2.2 j la sz cs e
theorem inR0 : inR 0 := by unfold inR; omega
theorem pw_sheet {k la m : Int} (v : PW P) : PW (op_sheet P k la m).2 := by
  unfold op_sheet
  split
  · exact v
  · split
    · exact v
    · split
      · exact v
      · have v0 : PW (P.uf 0) := v
        refine v0.sht (fun la' sz cs e => ?_)
        cases e
        refine ⟨by omega, by omega, by simp, fun i => ?_⟩
        rw [List.getD_eq_getElem?_getD, List.getElem?_replicate]
        split <;> exact inR0
theorem pw_lose {k : Int} (v : PW P) : PW (op_lose P k).2 := by
  unfold op_lose
  split
  · exact v
  · exact v.sht (fun la sz cs e => by cases e)
theorem cutV_in {la x : Int} (h : inR x) : inR (cutV la x) := by
  unfold cutV
  split
  · exact am_b8_in _
  · split
    · exact am_s16_in _
    · exact h
theorem pw_put {k i x : Int} (v : PW P) (hx : inR x) : PW (op_put P k i x).2 := by
  unfold op_put
  split
  · exact v
  · split
    · exact v
    · next la sz cs e =>
      have hz := v.2.2.2.2 _ _ _ _ e
      split
      · exact v
      · have v0 : PW (P.uf 0) := v
        refine v0.sht (fun la' sz' cs' e' => ?_)
        cases e'
        refine ⟨hz.1, hz.2.1, by simpa using hz.2.2.1, fun j => ?_⟩
        by_cases z : j = i.toNat
        · rw [z, gd_ss (by omega)]; exact cutV_in hx
        · rw [gd_sn (by omega)]; exact hz.2.2.2 j
theorem pw_cell {k i la : Int} (v : PW P) : PW (op_cell P k i la).2 := by
  unfold op_cell
  split
  · exact v
  · split
    · exact v
    · split
      · exact v
      · split <;> exact v
theorem pw_copy {k i o j m : Int} (v : PW P) : PW (op_copy P k i o j m).2 := by
  unfold op_copy
  split
  · exact v
  · split
    · next l1 s1 c1 l2 s2 c2 e1 e2 =>
      have hz := v.2.2.2.2 _ _ _ _ e1
      have hz' := v.2.2.2.2 _ _ _ _ e2
      split
      · exact v
      · split
        · exact v
        · have v0 : PW (P.uf 0) := v
          refine v0.sht (fun la' sz' cs' e' => ?_)
          cases e'
          refine ⟨hz'.1, hz'.2.1, by rw [am_cpy_len (by omega) (by omega)]; exact hz'.2.2.1, fun x => ?_⟩
          rw [am_cpy_get (by omega) (by omega)]
          split
          · exact hz.2.2.2 _
          · exact hz'.2.2.2 _
    · exact v
theorem pw_tell {f : Int} (v : PW P) : PW (op_tell P f).2 := by
  unfold op_tell
  split
  · exact v
  · split
    · exact v
    · split <;> exact v
theorem pw_note {f : Int} (v : PW P) : PW (op_note P f).2 := by
  unfold op_note
  split
  · exact v
  · split <;> exact v
theorem pw_as {f s : Int} (v : PW P) : PW (op_as P f s).2 := by
  unfold op_as
  split
  · exact v
  · split
    · exact v
    · split <;> exact v
theorem pw_day {k la i m w : Int} (v : PW P) : PW (op_day P k la i m w).2 := by
  unfold op_day
  split
  · exact v
  · split
    · exact v
    · split
      · exact v
      · split
        · exact v
        · split <;> exact v
end
