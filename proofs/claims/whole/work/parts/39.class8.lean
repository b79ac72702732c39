/-! CLASS 8: what a term needs, its answers -/
section
variable {d n : Nat} {h : am_H} {K : am_K} {P : PS} {fns : List FnT}
/-- the row changed -/
theorem CR.rwx {h' : am_H} (c : CR h P fns) (f : FrR h h' 49) (e : ∃ (cnt : Int) (sd ou lk to tl : List Int), RS h' 49 cnt sd ou lk to tl) : CR h' P fns := by
  obtain ⟨c1, c2, c3, c4, c5, c6, ⟨fc, tc, F, T, gs, c7⟩, c8, ⟨y0, y1, y2, y3, c9⟩, ⟨m1, c10⟩, ⟨m2, c11⟩⟩ := c
  refine ⟨?_, ?_, fun j hj => (c3 j hj).frame (fun q h1 h2 => f q (by omega)), c4.frame (fun q h1 h2 => f q (by omega)), c5, c6, ⟨fc, tc, F, T, gs, c7.frame (fun q h1 h2 => f q (by omega))⟩, e, ⟨y0, y1, y2, y3, ?_⟩, ⟨m1, ?_⟩, ⟨m2, ?_⟩⟩
  · rw [f _ (by omega)]; exact c1
  · rw [f _ (by omega)]; exact c2
  · rw [f _ (by omega)]; exact c9
  · rw [f _ (by omega)]; exact c10
  · rw [f _ (by omega)]; exact c11
theorem FrR.C {h' : am_H} (f : FrR h h' 49) : FrC h h' := fun q hq => f q (by omega)
theorem RO.rs {L : List Int} {e : Int → Int × Int} (a : RO h 49 L e) : ∃ (cnt : Int) (sd ou lk to tl : List Int), RS h 49 cnt sd ou lk to tl := by
  obtain ⟨sd, ou, lk, to, tl, a, _⟩ := a.out
  exact ⟨_, sd, ou, lk, to, tl, a⟩
theorem sp_needOf {o : Int} (k : K (some (iV (need1 o))) n h) : am_M (d + 1) 89 [iV o] n h K := by
  unfold need1 at k
  refine en_89 (am_run 400 ?_); simp (disch := omega) only [ow_89, rt_89, rn_89_0, rn_89_1, rn_89_2, rn_89_5, rn_89_6, rn_89_7, rn_89_8, rn_89_9, rn_89_12, rn_89_13, rn_89_14, rn_89_15, rn_89_17, rn_89_20, rn_89_21, rn_89_24, rn_89_25, s_iload_n_0, s_iconst_3, s_if2_ge, jm_2_5, s_iconst_0, s_irt, am_irq_1, am_irq_2, s_if2_ne, jm_9_5, s_bipush_8, jm_17_7, s_iconst_1, s_goto, jm_21_4, s_iconst_2, Int.le_refl, am_c3, am_c4, am_c6, am_c7, am_c8, am_c9, am_c27, am_c60, am_c240, am_c418, am_c3500, am_up_s, am_up_n, am_uu, ne_eq, Nat.reduceAdd, Int.reduceAdd, Int.reduceNeg, Int.reduceLE, Int.reduceToNat, true_and, and_true, List.length_cons, List.length_nil, Nat.reduceLeDiff, Nat.zero_add, Nat.add_zero, Nat.le_refl, true_or, or_true, reduceCtorEq, false_implies, implies_true, true_implies, not_true_eq_false, not_false_eq_true, eq_self, Int.zero_add, Int.reduceEq, Nat.reduceEqDiff]
  refine ⟨fun q => ⟨fun q1 => ⟨fun q2 => ?_, fun q2 => ?_⟩, fun q1 => ?_⟩, fun q => ?_⟩
  · rw [if_neg (by omega), if_neg (by omega), if_neg (by omega)] at k; exact k
  · rw [if_neg (by omega), if_neg (by omega), if_pos (by omega)] at k; exact k
  · rw [if_neg (by omega), if_pos (by omega)] at k; exact k
  · rw [if_pos (by omega)] at k; exact k
theorem sp_neededOf {o : Int} (ho : 0 ≤ o ∧ o ≤ 13) (k : K (some (iV (need2 o))) n h) : am_M (d + 1) 90 [iV o] n h K := by
  unfold need2 at k
  refine en_90 (am_run 400 ?_); simp (disch := omega) only [ow_90, rt_90, rn_90_0, rn_90_1, rn_90_2, rn_90_5, rn_90_6, rn_90_7, rn_90_8, rn_90_9, rn_90_12, rn_90_14, rn_90_15, rn_90_16, rn_90_18, rn_90_21, rn_90_22, rn_90_23, rn_90_24, rn_90_27, rn_90_28, rn_90_30, rn_90_31, s_iload_n_0, s_iconst_3, s_if2_ge, jm_2_5, s_irt, am_irq_1, am_irq_2, s_if2_ne, jm_9_6, s_bipush_m9, s_bipush_8, jm_18_9, s_iconst_4, s_isub, s_goto, jm_24_7, Int.le_refl, am_c3, am_c4, am_c6, am_c7, am_c8, am_c9, am_c27, am_c60, am_c240, am_c418, am_c3500, am_up_s, am_up_n, am_uu, ne_eq, Nat.reduceAdd, Int.reduceAdd, Int.reduceNeg, Int.reduceLE, Int.reduceToNat, true_and, and_true, List.length_cons, List.length_nil, Nat.reduceLeDiff, Nat.zero_add, Nat.add_zero, Nat.le_refl, true_or, or_true, reduceCtorEq, false_implies, implies_true, true_implies, not_true_eq_false, not_false_eq_true, eq_self, Int.zero_add, Int.reduceEq, Nat.reduceEqDiff, wr_ok]
  refine ⟨fun q => ⟨fun q1 => ⟨fun q2 => ?_, fun q2 => ?_⟩, fun q1 => ?_⟩, fun q => ?_⟩
  · rw [if_neg (by omega), if_neg (by omega), if_neg (by omega)] at k; exact k
  · rw [if_neg (by omega), if_neg (by omega), if_pos (by omega)] at k; exact k
  · rw [if_neg (by omega), if_pos (by omega)] at k; exact k
  · rw [if_pos (by omega)] at k; exact k
end
