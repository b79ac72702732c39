/-! LEAVES of the class -/
/-! bits: what the programs compute, as they compute it -/
def st_bound (s x : Int) : Int := am_and (am_shr s (wr (2 * x))) 3
def st_bind (s x v : Int) : Int := am_or (am_and s (am_xor (am_shl 3 (wr (2 * x))) (-1))) (am_shl v (wr (2 * x)))
def st_picked (s : Int) : Int := am_and (am_shr s 6) 63
def st_second (s : Int) : Int := am_and (am_shr s 12) 63
def st_pick (s t w : Int) : Int := am_or (am_or s (am_shl 1 (wr (6 + t)))) (am_shl w (wr (12 + t)))
theorem wr_ok {x : Int} (h1 : -2147483648 ≤ x) (h2 : x ≤ 2147483647) : wr x = x := wr_id ⟨h1, h2⟩
theorem am_up_self {h : am_H} {r : Nat} {c : am_C} (hr : h r = c) : am_up h r c = h := by
  funext q
  unfold am_up
  split
  · next e => rw [e, hr]
  · rfl
/-- two cells that are written -/
theorem am_up_cm {h : am_H} {r q : Nat} {c e : am_C} (hq : r ≠ q) : am_up (am_up h r c) q e = am_up (am_up h q e) r c := by
  funext z
  unfold am_up
  split
  · next e1 => split <;> first | rfl | (next e2 => exact absurd (e2.symm.trans e1) hq)
  · rfl
/-! lists -/
theorem gd_ss {α : Type} {l : List α} {i : Nat} {x e : α} (h : i < l.length) : (l.set i x).getD i e = x := by
  rw [List.getD_eq_getElem?_getD, List.getElem?_set_self h]; rfl
theorem gd_sn {α : Type} {l : List α} {i j : Nat} {x e : α} (h : i ≠ j) : (l.set i x).getD j e = l.getD j e := by
  rw [List.getD_eq_getElem?_getD, List.getD_eq_getElem?_getD, List.getElem?_set_ne h]
theorem gd_ext {α : Type} {l m : List α} (e : α) (h : l.length = m.length) (hh : ∀ i, i < l.length → l.getD i e = m.getD i e) : l = m := by
  apply List.ext_getElem h
  intro i h1 h2
  have := hh i h1
  simpa [List.getD_eq_getElem?_getD, h1, h2] using this
theorem gd_rep {α : Type} {m i : Nat} {x e : α} (h : i < m) : (List.replicate m x).getD i e = x := by
  rw [List.getD_eq_getElem?_getD, List.getElem?_replicate, if_pos h]; rfl
section
variable {d n : Nat} {h : am_H} {K : am_K}
theorem sp_isBelow {x b : Int} (k1 : 0 ≤ x ∧ x < b → K (some (iV 1)) n h) (k0 : ¬ (0 ≤ x ∧ x < b) → K (some (iV 0)) n h) : am_M (d + 1) 82 [iV x, iV b] n h K := by
  refine en_82 (am_run 400 ?_); simp (disch := omega) only [ow_82, rt_82, rn_82_0, rn_82_1, rn_82_4, rn_82_5, rn_82_6, rn_82_9, rn_82_10, rn_82_13, rn_82_14, s_iload_n_0, s_if1_lt, jm_1_12, s_iload_n_1, s_if2_ge, jm_6_7, s_iconst_1, s_goto, jm_10_4, s_iconst_0, s_irt, am_irq_1, am_irq_2, Int.le_refl, am_c3, am_c4, am_c6, am_c7, am_c8, am_c9, am_c27, am_c60, am_c240, am_c418, am_c3500, am_up_s, am_up_n, am_uu, ne_eq, Nat.reduceAdd, Int.reduceAdd, Int.reduceNeg, Int.reduceLE, Int.reduceToNat, true_and, and_true, List.length_cons, List.length_nil, Nat.reduceLeDiff, Nat.zero_add, Nat.add_zero, Nat.le_refl, true_or, or_true, reduceCtorEq, false_implies, implies_true, true_implies, not_true_eq_false, not_false_eq_true, eq_self, Int.zero_add, Int.reduceEq, Nat.reduceEqDiff]
  (repeat' first | (refine ⟨?_, ?_⟩) | (intro _)) <;> first | exact k1 (by omega) | exact k0 (by omega)
theorem sp_isPrice {x : Int} (k1 : 1 ≤ x ∧ x ≤ 9 → K (some (iV 1)) n h) (k0 : ¬ (1 ≤ x ∧ x ≤ 9) → K (some (iV 0)) n h) : am_M (d + 1) 83 [iV x] n h K := by
  refine en_83 (am_run 400 ?_); simp (disch := omega) only [ow_83, rt_83, rn_83_0, rn_83_1, rn_83_2, rn_83_5, rn_83_6, rn_83_8, rn_83_11, rn_83_12, rn_83_15, rn_83_16, s_iload_n_0, s_iconst_1, s_if2_lt, jm_2_13, s_bipush_9, s_if2_gt, jm_8_7, s_goto, jm_12_4, s_iconst_0, s_irt, am_irq_1, am_irq_2, Int.le_refl, am_c3, am_c4, am_c6, am_c7, am_c8, am_c9, am_c27, am_c60, am_c240, am_c418, am_c3500, am_up_s, am_up_n, am_uu, ne_eq, Nat.reduceAdd, Int.reduceAdd, Int.reduceNeg, Int.reduceLE, Int.reduceToNat, true_and, and_true, List.length_cons, List.length_nil, Nat.reduceLeDiff, Nat.zero_add, Nat.add_zero, Nat.le_refl, true_or, or_true, reduceCtorEq, false_implies, implies_true, true_implies, not_true_eq_false, not_false_eq_true, eq_self, Int.zero_add, Int.reduceEq, Nat.reduceEqDiff]
  (repeat' first | (refine ⟨?_, ?_⟩) | (intro _)) <;> first | exact k1 (by omega) | exact k0 (by omega)
theorem sp_bound {s x : Int} (k : K (some (iV (st_bound s x))) n h) : am_M (d + 1) 23 [iV s, iV x] n h K := by
  refine en_23 (am_run 400 ?_); simp (disch := omega) only [ow_23, rt_23, rn_23_0, rn_23_1, rn_23_2, rn_23_3, rn_23_4, rn_23_5, rn_23_6, rn_23_7, s_iload_n_0, s_iconst_2, s_iload_n_1, s_imul, s_ishr, s_iconst_3, s_iand, s_irt, am_irq_1, am_irq_2, Int.le_refl, am_c3, am_c4, am_c6, am_c7, am_c8, am_c9, am_c27, am_c60, am_c240, am_c418, am_c3500, am_up_s, am_up_n, am_uu, ne_eq, Nat.reduceAdd, Int.reduceAdd, Int.reduceNeg, Int.reduceLE, Int.reduceToNat, true_and, and_true, List.length_cons, List.length_nil, Nat.reduceLeDiff, Nat.zero_add, Nat.add_zero, Nat.le_refl, true_or, or_true, reduceCtorEq, false_implies, implies_true, true_implies, not_true_eq_false, not_false_eq_true, eq_self, Int.zero_add, Int.reduceEq, Nat.reduceEqDiff]
  exact k
theorem sp_bind {s x v : Int} (k : K (some (iV (st_bind s x v))) n h) : am_M (d + 1) 24 [iV s, iV x, iV v] n h K := by
  refine en_24 (am_run 400 ?_); simp (disch := omega) only [ow_24, rt_24, rn_24_0, rn_24_1, rn_24_2, rn_24_3, rn_24_4, rn_24_5, rn_24_6, rn_24_7, rn_24_8, rn_24_9, rn_24_10, rn_24_11, rn_24_12, rn_24_13, rn_24_14, rn_24_15, s_iload_n_0, s_iconst_3, s_iconst_2, s_iload_n_1, s_imul, s_ishl, s_iconst_m1, s_ixor, s_iand, s_iload_n_2, s_ior, s_irt, am_irq_1, am_irq_2, Int.le_refl, am_c3, am_c4, am_c6, am_c7, am_c8, am_c9, am_c27, am_c60, am_c240, am_c418, am_c3500, am_up_s, am_up_n, am_uu, ne_eq, Nat.reduceAdd, Int.reduceAdd, Int.reduceNeg, Int.reduceLE, Int.reduceToNat, true_and, and_true, List.length_cons, List.length_nil, Nat.reduceLeDiff, Nat.zero_add, Nat.add_zero, Nat.le_refl, true_or, or_true, reduceCtorEq, false_implies, implies_true, true_implies, not_true_eq_false, not_false_eq_true, eq_self, Int.zero_add, Int.reduceEq, Nat.reduceEqDiff]
  exact k
theorem sp_picked {s : Int} (k : K (some (iV (st_picked s))) n h) : am_M (d + 1) 25 [iV s] n h K := by
  refine en_25 (am_run 400 ?_); simp (disch := omega) only [ow_25, rt_25, rn_25_0, rn_25_1, rn_25_3, rn_25_4, rn_25_6, rn_25_7, s_iload_n_0, s_bipush_6, s_ishr, s_bipush_63, s_iand, s_irt, am_irq_1, am_irq_2, Int.le_refl, am_c3, am_c4, am_c6, am_c7, am_c8, am_c9, am_c27, am_c60, am_c240, am_c418, am_c3500, am_up_s, am_up_n, am_uu, ne_eq, Nat.reduceAdd, Int.reduceAdd, Int.reduceNeg, Int.reduceLE, Int.reduceToNat, true_and, and_true, List.length_cons, List.length_nil, Nat.reduceLeDiff, Nat.zero_add, Nat.add_zero, Nat.le_refl, true_or, or_true, reduceCtorEq, false_implies, implies_true, true_implies, not_true_eq_false, not_false_eq_true, eq_self, Int.zero_add, Int.reduceEq, Nat.reduceEqDiff]
  exact k
theorem sp_second {s : Int} (k : K (some (iV (st_second s))) n h) : am_M (d + 1) 26 [iV s] n h K := by
  refine en_26 (am_run 400 ?_); simp (disch := omega) only [ow_26, rt_26, rn_26_0, rn_26_1, rn_26_3, rn_26_4, rn_26_6, rn_26_7, s_iload_n_0, s_bipush_12, s_ishr, s_bipush_63, s_iand, s_irt, am_irq_1, am_irq_2, Int.le_refl, am_c3, am_c4, am_c6, am_c7, am_c8, am_c9, am_c27, am_c60, am_c240, am_c418, am_c3500, am_up_s, am_up_n, am_uu, ne_eq, Nat.reduceAdd, Int.reduceAdd, Int.reduceNeg, Int.reduceLE, Int.reduceToNat, true_and, and_true, List.length_cons, List.length_nil, Nat.reduceLeDiff, Nat.zero_add, Nat.add_zero, Nat.le_refl, true_or, or_true, reduceCtorEq, false_implies, implies_true, true_implies, not_true_eq_false, not_false_eq_true, eq_self, Int.zero_add, Int.reduceEq, Nat.reduceEqDiff]
  exact k
theorem sp_pick {s t w : Int} (k : K (some (iV (st_pick s t w))) n h) : am_M (d + 1) 27 [iV s, iV t, iV w] n h K := by
  refine en_27 (am_run 400 ?_); simp (disch := omega) only [ow_27, rt_27, rn_27_0, rn_27_1, rn_27_2, rn_27_4, rn_27_5, rn_27_6, rn_27_7, rn_27_8, rn_27_9, rn_27_11, rn_27_12, rn_27_13, rn_27_14, rn_27_15, s_iload_n_0, s_iconst_1, s_bipush_6, s_iload_n_1, s_iadd, s_ishl, s_ior, s_iload_n_2, s_bipush_12, s_irt, am_irq_1, am_irq_2, Int.le_refl, am_c3, am_c4, am_c6, am_c7, am_c8, am_c9, am_c27, am_c60, am_c240, am_c418, am_c3500, am_up_s, am_up_n, am_uu, ne_eq, Nat.reduceAdd, Int.reduceAdd, Int.reduceNeg, Int.reduceLE, Int.reduceToNat, true_and, and_true, List.length_cons, List.length_nil, Nat.reduceLeDiff, Nat.zero_add, Nat.add_zero, Nat.le_refl, true_or, or_true, reduceCtorEq, false_implies, implies_true, true_implies, not_true_eq_false, not_false_eq_true, eq_self, Int.zero_add, Int.reduceEq, Nat.reduceEqDiff]
  exact k
theorem sp_min {a b : Int} (k : K (some (iV (if a ≤ b then a else b))) n h) : am_M (d + 1) 164 [iV a, iV b] n h K := by
  refine en_164 (am_run 400 ?_); simp (disch := omega) only [ow_164, rt_164, rn_164_0, rn_164_1, rn_164_2, rn_164_5, rn_164_6, rn_164_9, rn_164_10, s_iload_n_0, s_iload_n_1, s_if2_gt, jm_2_7, s_goto, jm_6_4, s_irt, am_irq_1, am_irq_2, Int.le_refl, am_c3, am_c4, am_c6, am_c7, am_c8, am_c9, am_c27, am_c60, am_c240, am_c418, am_c3500, am_up_s, am_up_n, am_uu, ne_eq, Nat.reduceAdd, Int.reduceAdd, Int.reduceNeg, Int.reduceLE, Int.reduceToNat, true_and, and_true, List.length_cons, List.length_nil, Nat.reduceLeDiff, Nat.zero_add, Nat.add_zero, Nat.le_refl, true_or, or_true, reduceCtorEq, false_implies, implies_true, true_implies, not_true_eq_false, not_false_eq_true, eq_self, Int.zero_add, Int.reduceEq, Nat.reduceEqDiff]
  refine ⟨fun q => ?_, fun q => ?_⟩
  · rw [if_neg (by omega)] at k; exact k
  · rw [if_pos (by omega)] at k; exact k
theorem sp_has {p : Nat} {t l c : am_V} {sz i : Int} (hp : h p = oC 2 [t, l, Sum.inl sz, c]) (k1 : 0 ≤ i ∧ i < sz → K (some (iV 1)) n h) (k0 : ¬ (0 ≤ i ∧ i < sz) → K (some (iV 0)) n h) : am_M (d + 1) 20 [rV p, iV i] n h K := by
  refine en_20 (am_run 400 ?_); simp (disch := omega) only [ow_20, rt_20, rn_20_0, rn_20_1, rn_20_4, rn_20_5, rn_20_6, rn_20_9, rn_20_12, rn_20_13, rn_20_16, rn_20_17, s_iload_n_1, s_if1_lt, jm_1_15, s_aload_n_0, s_gf, am_gfq_e, am_nth_0, am_nth_s, fl_2_23, s_if2_ge, jm_9_7, s_iconst_1, s_goto, jm_13_4, s_iconst_0, s_irt, am_irq_1, am_irq_2, Int.le_refl, am_c3, am_c4, am_c6, am_c7, am_c8, am_c9, am_c27, am_c60, am_c240, am_c418, am_c3500, am_up_s, am_up_n, am_uu, ne_eq, Nat.reduceAdd, Int.reduceAdd, Int.reduceNeg, Int.reduceLE, Int.reduceToNat, true_and, and_true, List.length_cons, List.length_nil, Nat.reduceLeDiff, Nat.zero_add, Nat.add_zero, Nat.le_refl, true_or, or_true, reduceCtorEq, false_implies, implies_true, true_implies, not_true_eq_false, not_false_eq_true, eq_self, Int.zero_add, Int.reduceEq, Nat.reduceEqDiff, hp]
  (repeat' first | (refine ⟨?_, ?_⟩) | (intro _)) <;> first | exact k1 (by omega) | exact k0 (by omega)
theorem sp_holds {p : Nat} {t l c : am_V} {sz i m : Int} (hp : h p = oC 2 [t, l, Sum.inl sz, c]) (hs : 0 ≤ sz ∧ sz ≤ 60) (k1 : 0 ≤ i ∧ 0 ≤ m ∧ i + m ≤ sz → K (some (iV 1)) n h) (k0 : ¬ (0 ≤ i ∧ 0 ≤ m ∧ i + m ≤ sz) → K (some (iV 0)) n h) : am_M (d + 1) 21 [rV p, iV i, iV m] n h K := by
  refine en_21 (am_run 400 ?_); simp (disch := omega) only [ow_21, rt_21, rn_21_0, rn_21_1, rn_21_4, rn_21_5, rn_21_6, rn_21_9, rn_21_12, rn_21_13, rn_21_16, rn_21_17, rn_21_18, rn_21_21, rn_21_22, rn_21_23, rn_21_26, rn_21_27, rn_21_30, rn_21_31, s_iload_n_1, s_if1_lt, jm_1_29, s_aload_n_0, s_gf, am_gfq_e, am_nth_0, am_nth_s, fl_2_23, s_if2_gt, jm_9_21, s_iload_n_2, jm_13_17, s_isub, jm_23_7, s_iconst_1, s_goto, jm_27_4, s_iconst_0, s_irt, am_irq_1, am_irq_2, Int.le_refl, am_c3, am_c4, am_c6, am_c7, am_c8, am_c9, am_c27, am_c60, am_c240, am_c418, am_c3500, am_up_s, am_up_n, am_uu, ne_eq, Nat.reduceAdd, Int.reduceAdd, Int.reduceNeg, Int.reduceLE, Int.reduceToNat, true_and, and_true, List.length_cons, List.length_nil, Nat.reduceLeDiff, Nat.zero_add, Nat.add_zero, Nat.le_refl, true_or, or_true, reduceCtorEq, false_implies, implies_true, true_implies, not_true_eq_false, not_false_eq_true, eq_self, Int.zero_add, Int.reduceEq, Nat.reduceEqDiff, hp]
  unfold wr
  (repeat' first | (refine ⟨?_, ?_⟩) | (intro _)) <;> first | exact k1 (by omega) | exact k0 (by omega)
theorem sp_cut {p : Nat} {t sz c : am_V} {la v : Int} (hp : h p = oC 2 [t, Sum.inl la, sz, c]) (k : K (some (iV (if la = 0 then am_b8 v else if la = 1 then am_s16 v else v))) n h) : am_M (d + 1) 22 [rV p, iV v] n h K := by
  refine en_22 (am_run 400 ?_); simp (disch := omega) only [ow_22, rt_22, rn_22_0, rn_22_1, rn_22_4, rn_22_32, rn_22_33, rn_22_34, rn_22_35, rn_22_36, rn_22_37, rn_22_38, rn_22_39, s_aload_n_0, s_gf, am_gfq_e, am_nth_0, am_nth_s, fl_2_19, s_lsw, am_swL_n, am_swL_c, List.toList_toArray, am_srt, List.drop_succ_cons, List.drop_zero, List.zip_cons_cons, List.zip_nil_right, List.all_cons, List.all_nil, Int.reduceLT, decide_true, Bool.and_true, Bool.and_self, jm_4_28, jm_4_31, jm_4_34, s_iload_n_1, s_i2b, s_irt, am_irq_1, am_irq_2, s_i2s, Int.le_refl, am_c3, am_c4, am_c6, am_c7, am_c8, am_c9, am_c27, am_c60, am_c240, am_c418, am_c3500, am_up_s, am_up_n, am_uu, ne_eq, Nat.reduceAdd, Int.reduceAdd, Int.reduceNeg, Int.reduceLE, Int.reduceToNat, true_and, and_true, List.length_cons, List.length_nil, Nat.reduceLeDiff, Nat.zero_add, Nat.add_zero, Nat.le_refl, true_or, or_true, reduceCtorEq, false_implies, implies_true, true_implies, not_true_eq_false, not_false_eq_true, eq_self, Int.zero_add, Int.reduceEq, Nat.reduceEqDiff, hp]
  refine ⟨fun q => ?_, fun q => ⟨fun q2 => ?_, fun q2 => ?_⟩⟩
  · rw [if_pos q] at k; exact k
  · rw [if_neg q, if_pos q2] at k; exact k
  · rw [if_neg q, if_neg q2] at k; exact k
theorem sp_clear2 {p : Nat} {c la sz : am_V} {th : Int} (hp : h p = oC 2 [iV th, la, sz, c]) (ht : th = 0 ∨ th = 1) (k : K (some (iV th)) n (am_up h p (oC 2 [iV 0, la, iV 0, c]))) : am_M (d + 1) 18 [rV p] n h K := by
  refine en_18 (am_run 400 ?_); simp (disch := omega) only [ow_18, rt_18, rn_18_0, rn_18_1, rn_18_4, rn_18_5, rn_18_6, rn_18_7, rn_18_10, rn_18_11, rn_18_12, rn_18_15, rn_18_16, s_aload_n_0, s_gf, am_gfq_e, am_nth_0, am_nth_s, fl_2_15, s_istore_n_1, am_kil_n, am_kil_i, am_kil_r, am_kil_l, s_iconst_0, s_pf, am_pfq_e, am_fit_0, am_fit_1, am_fit_2, List.set_cons_zero, List.set_cons_succ, Nat.reduceLT, Bool.false_eq_true, Nat.lt_add_one, Nat.zero_lt_succ, fk_2_0, ff_2_0, in_18, fl_2_23, fk_2_2, ff_2_2, s_iload_n_1, s_irt, am_irq_1, am_irq_2, Int.le_refl, am_c3, am_c4, am_c6, am_c7, am_c8, am_c9, am_c27, am_c60, am_c240, am_c418, am_c3500, am_up_s, am_up_n, am_uu, ne_eq, Nat.reduceAdd, Int.reduceAdd, Int.reduceNeg, Int.reduceLE, Int.reduceToNat, true_and, and_true, List.length_cons, List.length_nil, Nat.reduceLeDiff, Nat.zero_add, Nat.add_zero, Nat.le_refl, true_or, or_true, reduceCtorEq, false_implies, implies_true, true_implies, not_true_eq_false, not_false_eq_true, eq_self, Int.zero_add, Int.reduceEq, Nat.reduceEqDiff, hp]
  exact ⟨ht, k⟩
theorem sp_faultAs {p : Nat} {c sz : am_V} {th la w : Int} (hp : h p = oC 2 [iV th, iV la, sz, c]) (k1 : th = 0 → K (some (iV 1)) n h) (k2 : th ≠ 0 ∧ la ≠ w → K (some (iV 2)) n h) (k0 : th ≠ 0 ∧ la = w → K (some (iV 0)) n h) : am_M (d + 1) 19 [rV p, iV w] n h K := by
  refine en_19 (am_run 400 ?_); simp (disch := omega) only [ow_19, rt_19, rn_19_0, rn_19_1, rn_19_4, rn_19_7, rn_19_8, rn_19_9, rn_19_10, rn_19_13, rn_19_14, rn_19_17, rn_19_18, rn_19_21, rn_19_22, s_aload_n_0, s_gf, am_gfq_e, am_nth_0, am_nth_s, fl_2_15, s_if1_ne, jm_4_5, s_iconst_1, s_irt, am_irq_1, am_irq_2, fl_2_19, s_iload_n_1, s_if2_ne, jm_14_7, s_iconst_0, s_goto, jm_18_4, s_iconst_2, Int.le_refl, am_c3, am_c4, am_c6, am_c7, am_c8, am_c9, am_c27, am_c60, am_c240, am_c418, am_c3500, am_up_s, am_up_n, am_uu, ne_eq, Nat.reduceAdd, Int.reduceAdd, Int.reduceNeg, Int.reduceLE, Int.reduceToNat, true_and, and_true, List.length_cons, List.length_nil, Nat.reduceLeDiff, Nat.zero_add, Nat.add_zero, Nat.le_refl, true_or, or_true, reduceCtorEq, false_implies, implies_true, true_implies, not_true_eq_false, not_false_eq_true, eq_self, Int.zero_add, Int.reduceEq, Nat.reduceEqDiff, hp]
  (repeat' first | (refine ⟨?_, ?_⟩) | (intro _)) <;> first | exact k1 (by omega) | exact k2 (by omega) | exact k0 (by omega)
theorem lp_lay {p c : Nat} {t l z : am_V} {la sz : Int} (hc0 : c ≠ 0) (hpc : p ≠ c) : ∀ (k : Nat) (i : Int) (h : am_H) (cs : List Int), i + k = 60 → 0 ≤ i → h p = oC 2 [t, l, z, rV c] → h c = aC cs → cs.length = 60 → (∀ j : Nat, (j : Int) < i → cs.getD j 0 = 0) → K none n (am_up h c (aC (List.replicate 60 0))) → am_W 17 n (am_M d) K 17 [some (rV p), some (iV la), some (iV sz), some (iV i)] [] n h := by
  intro k
  induction k with
  | zero =>
    intro i h cs hi hi0 hp hc hl hz hk
    have : i = 60 := by omega
    subst this
    refine am_runH 400 ?_; simp (disch := omega) only [ow_17, rt_17, rn_17_0, rn_17_1, rn_17_2, rn_17_5, rn_17_6, rn_17_7, rn_17_10, rn_17_11, rn_17_12, rn_17_15, rn_17_16, rn_17_17, rf_17_17, rn_17_18, rn_17_20, rn_17_23, rn_17_24, rn_17_27, rn_17_28, rn_17_29, rn_17_30, rn_17_33, rn_17_36, s_aload_n_0, s_iconst_1, s_pf, am_pfq_e, am_fit_0, am_fit_1, am_fit_2, List.set_cons_zero, List.set_cons_succ, Nat.reduceLT, Bool.false_eq_true, Nat.lt_add_one, Nat.zero_lt_succ, fl_2_15, fk_2_0, ff_2_0, in_17, s_iload_n_1, fl_2_19, fk_2_1, ff_2_1, s_iload_n_2, fl_2_23, fk_2_2, ff_2_2, s_iconst_0, s_istore_n_3, am_kil_n, am_kil_i, am_kil_r, am_kil_l, s_iload_n_3, s_bipush_60, s_if2_ge, jm_20_16, s_gf, am_gfq_e, am_nth_0, am_nth_s, fl_2_9, s_iast, am_iwq_e, s_iinc_3, s_goto, jm_33_m16, s_vrt, am_orq_e, Int.le_refl, am_c3, am_c4, am_c6, am_c7, am_c8, am_c9, am_c27, am_c60, am_c240, am_c418, am_c3500, am_up_s, am_up_n, am_uu, ne_eq, Nat.reduceAdd, Int.reduceAdd, Int.reduceNeg, Int.reduceLE, Int.reduceToNat, true_and, and_true, List.length_cons, List.length_nil, Nat.reduceLeDiff, Nat.zero_add, Nat.add_zero, Nat.le_refl, true_or, or_true, reduceCtorEq, false_implies, implies_true, true_implies, not_true_eq_false, not_false_eq_true, eq_self, Int.zero_add, Int.reduceEq, Nat.reduceEqDiff]
    rw [am_up_self] at hk
    · exact hk
    · rw [hc]
      congr 2
      exact gd_ext 0 (by simp [hl]) (fun j hj => by rw [hz j (by omega), gd_rep (by omega)])
  | succ k ih =>
    intro i h cs hi hi0 hp hc hl hz hk
    refine am_runH 400 ?_; simp (disch := omega) only [ow_17, rt_17, rn_17_0, rn_17_1, rn_17_2, rn_17_5, rn_17_6, rn_17_7, rn_17_10, rn_17_11, rn_17_12, rn_17_15, rn_17_16, rn_17_17, rf_17_17, rn_17_18, rn_17_20, rn_17_23, rn_17_24, rn_17_27, rn_17_28, rn_17_29, rn_17_30, rn_17_33, rn_17_36, s_aload_n_0, s_iconst_1, s_pf, am_pfq_e, am_fit_0, am_fit_1, am_fit_2, List.set_cons_zero, List.set_cons_succ, Nat.reduceLT, Bool.false_eq_true, Nat.lt_add_one, Nat.zero_lt_succ, fl_2_15, fk_2_0, ff_2_0, in_17, s_iload_n_1, fl_2_19, fk_2_1, ff_2_1, s_iload_n_2, fl_2_23, fk_2_2, ff_2_2, s_iconst_0, s_istore_n_3, am_kil_n, am_kil_i, am_kil_r, am_kil_l, s_iload_n_3, s_bipush_60, s_if2_ge, jm_20_16, s_gf, am_gfq_e, am_nth_0, am_nth_s, fl_2_9, s_iast, am_iwq_e, s_iinc_3, s_goto, jm_33_m16, s_vrt, am_orq_e, Int.le_refl, am_c3, am_c4, am_c6, am_c7, am_c8, am_c9, am_c27, am_c60, am_c240, am_c418, am_c3500, am_up_s, am_up_n, am_uu, ne_eq, Nat.reduceAdd, Int.reduceAdd, Int.reduceNeg, Int.reduceLE, Int.reduceToNat, true_and, and_true, List.length_cons, List.length_nil, Nat.reduceLeDiff, Nat.zero_add, Nat.add_zero, Nat.le_refl, true_or, or_true, reduceCtorEq, false_implies, implies_true, true_implies, not_true_eq_false, not_false_eq_true, eq_self, Int.zero_add, Int.reduceEq, Nat.reduceEqDiff, hp, hc, wr_ok, hl]
    refine ⟨fun q => by omega, fun q => ⟨hc0, ⟨by omega, by omega⟩, ?_⟩⟩
    refine ih (i + 1) _ (cs.set i.toNat 0) (by omega) (by omega) (by rw [am_up_n hpc]; exact hp) am_up_s (by simp [hl]) (fun j hj => ?_) (by rw [am_uu]; exact hk)
    by_cases e : j = i.toNat
    · rw [e, gd_ss (by omega)]
    · rw [gd_sn (by omega)]; exact hz j (by omega)
theorem sp_lay {p c : Nat} {t l z : am_V} {la sz : Int} {cs : List Int} (hc0 : c ≠ 0) (hpc : p ≠ c) (hp : h p = oC 2 [t, l, z, rV c]) (hc : h c = aC cs) (hl : cs.length = 60) (k : K none n (am_up (am_up h p (oC 2 [iV 1, iV la, iV sz, rV c])) c (aC (List.replicate 60 0)))) : am_M (d + 1) 17 [rV p, iV la, iV sz] n h K := by
  refine en_17 (am_run 400 ?_); simp (disch := omega) only [ow_17, rt_17, rn_17_0, rn_17_1, rn_17_2, rn_17_5, rn_17_6, rn_17_7, rn_17_10, rn_17_11, rn_17_12, rn_17_15, rn_17_16, rn_17_17, rf_17_17, rn_17_18, rn_17_20, rn_17_23, rn_17_24, rn_17_27, rn_17_28, rn_17_29, rn_17_30, rn_17_33, rn_17_36, s_aload_n_0, s_iconst_1, s_pf, am_pfq_e, am_fit_0, am_fit_1, am_fit_2, List.set_cons_zero, List.set_cons_succ, Nat.reduceLT, Bool.false_eq_true, Nat.lt_add_one, Nat.zero_lt_succ, fl_2_15, fk_2_0, ff_2_0, in_17, s_iload_n_1, fl_2_19, fk_2_1, ff_2_1, s_iload_n_2, fl_2_23, fk_2_2, ff_2_2, s_iconst_0, s_istore_n_3, am_kil_n, am_kil_i, am_kil_r, am_kil_l, s_iload_n_3, s_bipush_60, s_if2_ge, jm_20_16, s_gf, am_gfq_e, am_nth_0, am_nth_s, fl_2_9, s_iast, am_iwq_e, s_iinc_3, s_goto, jm_33_m16, s_vrt, am_orq_e, Int.le_refl, am_c3, am_c4, am_c6, am_c7, am_c8, am_c9, am_c27, am_c60, am_c240, am_c418, am_c3500, am_up_s, am_up_n, am_uu, ne_eq, Nat.reduceAdd, Int.reduceAdd, Int.reduceNeg, Int.reduceLE, Int.reduceToNat, true_and, and_true, List.length_cons, List.length_nil, Nat.reduceLeDiff, Nat.zero_add, Nat.add_zero, Nat.le_refl, true_or, or_true, reduceCtorEq, false_implies, implies_true, true_implies, not_true_eq_false, not_false_eq_true, eq_self, Int.zero_add, Int.reduceEq, Nat.reduceEqDiff, hp]
  exact lp_lay hc0 hpc 60 0 _ cs (by omega) (by omega) am_up_s (by rw [am_up_n (fun e => hpc e.symm)]; exact hc) hl (fun j hj => by omega) k
/-- what a function of a kind and a price costs -/
def fcost (ki pr : Int) : Int := if ki = 0 then pr else if ki = 1 then pr + 1 else 2 * pr
theorem sp_cost {p : Nat} {a b c : am_V} {ki pr : Int} (hp : h p = oC 0 [iV ki, iV pr, a, b, c]) (hk : 0 ≤ ki ∧ ki ≤ 2) (hr : 1 ≤ pr ∧ pr ≤ 9) (k : K (some (iV (fcost ki pr))) n h) : am_M (d + 1) 1 [rV p] n h K := by
  refine en_1 (am_run 400 ?_); simp (disch := omega) only [ow_1, rt_1, rn_1_0, rn_1_1, rn_1_4, rn_1_32, rn_1_33, rn_1_34, rn_1_37, rn_1_38, rn_1_39, rn_1_40, rn_1_43, rn_1_44, rn_1_45, rn_1_46, rn_1_47, rn_1_50, s_aload_n_0, s_gf, am_gfq_e, am_nth_0, am_nth_s, fl_0_18, s_lsw, am_swL_n, am_swL_c, List.toList_toArray, am_srt, List.drop_succ_cons, List.drop_zero, List.zip_cons_cons, List.zip_nil_right, List.all_cons, List.all_nil, Int.reduceLT, decide_true, Bool.and_true, Bool.and_self, jm_4_35, jm_4_28, jm_4_42, s_iconst_2, fl_0_22, s_imul, s_irt, am_irq_1, am_irq_2, s_iconst_1, s_iadd, Int.le_refl, am_c3, am_c4, am_c6, am_c7, am_c8, am_c9, am_c27, am_c60, am_c240, am_c418, am_c3500, am_up_s, am_up_n, am_uu, ne_eq, Nat.reduceAdd, Int.reduceAdd, Int.reduceNeg, Int.reduceLE, Int.reduceToNat, true_and, and_true, List.length_cons, List.length_nil, Nat.reduceLeDiff, Nat.zero_add, Nat.add_zero, Nat.le_refl, true_or, or_true, reduceCtorEq, false_implies, implies_true, true_implies, not_true_eq_false, not_false_eq_true, eq_self, Int.zero_add, Int.reduceEq, Nat.reduceEqDiff, hp]
  unfold fcost at k
  refine ⟨fun q => ?_, fun q => ⟨fun q2 => ?_, fun q2 => ?_⟩⟩
  · rw [if_neg (by omega), if_pos q] at k
    rw [wr_ok (by omega) (by omega)]; exact k
  · rw [if_neg (by omega), if_neg q] at k
    rw [wr_ok (by omega) (by omega)]; exact k
  · rw [if_pos (by omega)] at k; exact k
theorem sp_become {p : Nat} {a b c e : am_V} {x y z w : Int} (hp : h p = oC 3 [a, b, c, e]) (k : K none n (am_up h p (oC 3 [iV x, iV y, iV z, iV w]))) : am_M (d + 1) 29 [rV p, iV x, iV y, iV z, iV w] n h K := by
  refine en_29 (am_run 400 ?_); simp (disch := omega) only [ow_29, rt_29, rn_29_0, rn_29_1, rn_29_2, rn_29_5, rn_29_6, rn_29_7, rn_29_10, rn_29_11, rn_29_12, rn_29_15, rn_29_16, rn_29_18, rn_29_21, s_aload_n_0, s_iload_n_1, s_pf, am_pfq_e, am_fit_0, am_fit_1, am_fit_2, List.set_cons_zero, List.set_cons_succ, Nat.reduceLT, Bool.false_eq_true, Nat.lt_add_one, Nat.zero_lt_succ, fl_3_7, fk_3_0, ff_3_0, in_29, s_iload_n_2, fl_3_13, fk_3_1, ff_3_1, s_iload_n_3, fl_3_16, fk_3_2, ff_3_2, s_iload_4, fl_3_19, fk_3_3, ff_3_3, s_vrt, am_orq_e, Int.le_refl, am_c3, am_c4, am_c6, am_c7, am_c8, am_c9, am_c27, am_c60, am_c240, am_c418, am_c3500, am_up_s, am_up_n, am_uu, ne_eq, Nat.reduceAdd, Int.reduceAdd, Int.reduceNeg, Int.reduceLE, Int.reduceToNat, true_and, and_true, List.length_cons, List.length_nil, Nat.reduceLeDiff, Nat.zero_add, Nat.add_zero, Nat.le_refl, true_or, or_true, reduceCtorEq, false_implies, implies_true, true_implies, not_true_eq_false, not_false_eq_true, eq_self, Int.zero_add, Int.reduceEq, Nat.reduceEqDiff, hp]
  exact k
theorem am_cpy_all {l g : List Int} {k : Nat} (h1 : l.length = k) (h2 : g.length = k) : am_cpy l g 0 0 k = l := by
  unfold am_cpy
  rw [List.take_zero, List.nil_append, List.drop_zero, List.take_of_length_le (by omega), List.drop_of_length_le (by omega), List.append_nil]
/-- Function.take: of another one -/
theorem sp_takeF {p q p1 p2 q1 q2 : Nat} {a b c : am_V} {x y z : Int} {f1 f2 g1 g2 : List Int} (hpq : p ≠ q) (h1 : p ≠ p1) (h2 : p ≠ p2) (h3 : p ≠ q1) (h4 : p ≠ q2) (h5 : p1 ≠ p2) (h6 : p1 ≠ q) (h7 : p1 ≠ q2) (z1 : p1 ≠ 0) (z2 : p2 ≠ 0) (z3 : q1 ≠ 0) (z4 : q2 ≠ 0)
    (hp : h p = oC 0 [a, b, c, rV p1, rV p2]) (hq : h q = oC 0 [iV x, iV y, iV z, rV q1, rV q2]) (hp1 : h p1 = aC f1) (hp2 : h p2 = aC f2) (hq1 : h q1 = aC g1) (hq2 : h q2 = aC g2) (l1 : f1.length = 3) (l2 : f2.length = 9) (l3 : g1.length = 3) (l4 : g2.length = 9)
    (k : K none n (am_up (am_up (am_up h p (oC 0 [iV x, iV y, iV z, rV p1, rV p2])) p1 (aC g1)) p2 (aC g2))) : am_M (d + 1) 2 [rV p, rV q] n h K := by
  refine en_2 (am_run 400 ?_); simp (disch := omega) only [ow_2, rt_2, rn_2_0, rn_2_1, rn_2_2, rn_2_5, rn_2_8, rn_2_9, rn_2_10, rn_2_13, rn_2_16, rn_2_17, rn_2_18, rn_2_21, rn_2_24, rn_2_25, rn_2_28, rn_2_29, rn_2_30, rn_2_33, rn_2_34, rn_2_35, rn_2_38, rn_2_39, rn_2_42, rn_2_43, rn_2_44, rn_2_47, rn_2_48, rn_2_50, rn_2_53, s_aload_n_0, s_aload_n_1, s_gf, am_gfq_e, am_nth_0, am_nth_s, fl_0_18, s_pf, am_pfq_e, am_fit_0, am_fit_1, am_fit_2, List.set_cons_zero, List.set_cons_succ, Nat.reduceLT, Bool.false_eq_true, Nat.lt_add_one, Nat.zero_lt_succ, fk_0_0, ff_0_0, in_2, fl_0_22, fk_0_1, ff_0_1, fl_0_25, fk_0_2, ff_0_2, fl_0_9, s_iconst_0, s_iconst_3, s_ivs, am_isv_1, am_isv_3, am_isv_5, s_acp, am_cpq_e, am_po_s, am_po_n, am_sl_n, am_sl_i, am_sl_r, am_sl_l, ml_0_28, fl_0_15, s_bipush_9, s_vrt, am_orq_e, Int.le_refl, am_c3, am_c4, am_c6, am_c7, am_c8, am_c9, am_c27, am_c60, am_c240, am_c418, am_c3500, am_up_s, am_up_n, am_uu, ne_eq, Nat.reduceAdd, Int.reduceAdd, Int.reduceNeg, Int.reduceLE, Int.reduceToNat, true_and, and_true, List.length_cons, List.length_nil, Nat.reduceLeDiff, Nat.zero_add, Nat.add_zero, Nat.le_refl, true_or, or_true, reduceCtorEq, false_implies, implies_true, true_implies, not_true_eq_false, not_false_eq_true, eq_self, Int.zero_add, Int.reduceEq, Nat.reduceEqDiff, hp, hq, hp1, hp2, hq1, hq2, l1, l2, l3, l4]
  refine ⟨⟨z3, z1⟩, ⟨z4, z2⟩, ?_⟩
  rw [am_cpy_all l3 l1, am_cpy_all l4 l2]
  exact k
/-- how many bits are set in a number below 64 -/
def bits6 (x : Int) : Int := x % 2 + x / 2 % 2 + x / 4 % 2 + x / 8 % 2 + x / 16 % 2 + x / 32 % 2
def bcE (x : Int) : Int :=
  let a := wr (x - am_and (am_ush x 1) (wr 1431655765))
  let b := wr (am_and a (wr 858993459) + am_and (am_ush a 2) (wr 858993459))
  let c := am_and (wr (b + am_ush b 4)) (wr 252645135)
  let e := wr (c + am_ush c 8)
  am_and (wr (e + am_ush e 16)) 63
theorem bcE_ok : ∀ k : Nat, k < 64 → bcE k = bits6 k := by decide +kernel
theorem sp_bitCount {x : Int} (hx : 0 ≤ x ∧ x < 64) (k : K (some (iV (bits6 x))) n h) : am_M (d + 1) 163 [iV x] n h K := by
  refine en_163 (am_run 400 ?_); simp (disch := omega) only [ow_163, rt_163, rn_163_0, rn_163_1, rn_163_2, rn_163_3, rn_163_4, rn_163_7, rn_163_8, rn_163_9, rn_163_10, rn_163_11, rn_163_14, rn_163_15, rn_163_16, rn_163_17, rn_163_18, rn_163_21, rn_163_22, rn_163_23, rn_163_24, rn_163_25, rn_163_26, rn_163_27, rn_163_28, rn_163_29, rn_163_32, rn_163_33, rn_163_34, rn_163_35, rn_163_36, rn_163_38, rn_163_39, rn_163_40, rn_163_41, rn_163_42, rn_163_43, rn_163_45, rn_163_46, rn_163_47, rn_163_48, rn_163_49, rn_163_51, rn_163_52, s_iload_n_0, s_iconst_1, s_iushr, s_ldc, am_ldc_e, ci_8_265, s_iand, s_isub, s_istore_n_0, am_kil_n, am_kil_i, am_kil_r, am_kil_l, ci_8_266, s_iconst_2, s_iadd, s_iconst_4, ci_8_267, s_bipush_8, s_bipush_16, s_bipush_63, s_irt, am_irq_1, am_irq_2, Int.le_refl, am_c3, am_c4, am_c6, am_c7, am_c8, am_c9, am_c27, am_c60, am_c240, am_c418, am_c3500, am_up_s, am_up_n, am_uu, ne_eq, Nat.reduceAdd, Int.reduceAdd, Int.reduceNeg, Int.reduceLE, Int.reduceToNat, true_and, and_true, List.length_cons, List.length_nil, Nat.reduceLeDiff, Nat.zero_add, Nat.add_zero, Nat.le_refl, true_or, or_true, reduceCtorEq, false_implies, implies_true, true_implies, not_true_eq_false, not_false_eq_true, eq_self, Int.zero_add, Int.reduceEq, Nat.reduceEqDiff]
  have e := bcE_ok x.toNat (by omega)
  rw [show ((x.toNat : Nat) : Int) = x by omega] at e
  rw [← e] at k
  exact k
end
