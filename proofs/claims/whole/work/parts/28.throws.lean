/-! ROWS 8: throws -/
/-- how many of 1728 throws agree with a stand -/
def thr (gs : List Int) (s : Int) : Int := 1728 / 2 ^ (bits6 (st_picked s)).toNat / 3 ^ (sm 3 (bsc gs s)).toNat
def fTh (gs : List Int) (e : Int → Int × Int) (v a s : Int) : Int := if (e s).1 = v then a + thr gs s else a
theorem fTh_1 {gs : List Int} {e : Int → Int × Int} {v a s : Int} (h : (e s).1 = v) : fTh gs e v a s = a + thr gs s := if_pos h
theorem fTh_0 {gs : List Int} {e : Int → Int × Int} {v a s : Int} (h : ¬ (e s).1 = v) : fTh gs e v a s = a := if_neg h
theorem and63 (x : Int) : 0 ≤ am_and x 63 ∧ am_and x 63 < 64 := by
  unfold am_and
  obtain ⟨j, hj, e⟩ := pk_andE (Int32.ofInt x) (m := Int32.ofInt 63) 6 (by decide)
  rw [e, nI_toInt (by omega)]
  omega
theorem bits6_rng {x : Int} (hx : 0 ≤ x ∧ x < 64) : 0 ≤ bits6 x ∧ bits6 x ≤ 6 := by
  unfold bits6
  omega
theorem bsc_rng {gs : List Int} {s : Int} : 0 ≤ sm 3 (bsc gs s) ∧ sm 3 (bsc gs s) ≤ 3 := by
  have h : ∀ x, 0 ≤ bsc gs s x ∧ bsc gs s x ≤ 1 := fun x => by unfold bsc; split <;> omega
  have h0 := h 0
  have h1 := h 1
  have h2 := h 2
  show 0 ≤ 0 + bsc gs s 0 + bsc gs s 1 + bsc gs s 2 ∧ 0 + bsc gs s 0 + bsc gs s 1 + bsc gs s 2 ≤ 3
  omega
theorem shr_1728 : ∀ b : Fin 7, am_shr 1728 (b.val : Int) = 1728 / 2 ^ b.val := by decide +kernel
theorem thr_rng {gs : List Int} {s : Int} : 0 ≤ thr gs s ∧ thr gs s ≤ 1728 := by
  have hb := bits6_rng (and63 (am_shr s 6))
  have hc := bsc_rng (gs := gs) (s := s)
  have : ∀ (b : Fin 7) (c : Fin 4), 0 ≤ (1728 : Int) / 2 ^ b.val / 3 ^ c.val ∧ (1728 : Int) / 2 ^ b.val / 3 ^ c.val ≤ 1728 := by decide +kernel
  exact this ⟨(bits6 (st_picked s)).toNat, by unfold st_picked; omega⟩ ⟨(sm 3 (bsc gs s)).toNat, by omega⟩
section
variable {d n : Nat} {h : am_H} {K : am_K} {r w : Nat} {fns : List FnT} {tms : List TmT} {gs : List Int} {L : List Int} {e : Int → Int × Int}
theorem sp_throwsIn {s : Int} (hW : WR h w fns tms gs) (k : K (some (iV (thr gs s))) n h) : am_M (d + 3) 15 [rV w, iV s] n h K := by
  obtain ⟨l1, l2, F, T, hS, hF, hT⟩ := id hW
  refine en_15 (am_run 400 ?_); simp (disch := omega) only [ow_15, rt_15, rn_15_0, rn_15_3, rn_15_4, rn_15_7, rn_15_10, rn_15_11, rn_15_12, rn_15_13, rn_15_14, rn_15_17, rn_15_18, rn_15_19, rn_15_21, rf_15_21, rn_15_23, rn_15_24, rn_15_27, rn_15_29, rn_15_30, rn_15_33, rn_15_34, rn_15_35, rn_15_36, rn_15_37, rn_15_40, rn_15_43, rn_15_44, s_sipush_1728, s_iload_n_1, s_ivs, am_isv_1, am_isv_3, am_isv_5, s_acp, am_cpq_e, am_po_s, am_po_n, am_sl_n, am_sl_i, am_sl_r, am_sl_l, ml_1_113, cq_25, ml_1_132, cq_163, s_ishr, s_istore_n_2, am_kil_n, am_kil_i, am_kil_r, am_kil_l, s_aload_n_0, s_ivv, am_ivq_e, am_cvq_e, ml_1_137, cq_50, s_istore_n_3, s_iconst_0, s_istore_4, s_iload_4, s_iload_n_3, s_if2_ge, jm_24_19, s_iconst_3, jm_30_13, s_iload_n_2, s_idiv, s_iinc_4, s_goto, jm_40_m19, s_irt, am_irq_1, am_irq_2, Int.le_refl, am_c3, am_c4, am_c6, am_c7, am_c8, am_c9, am_c27, am_c60, am_c240, am_c418, am_c3500, am_up_s, am_up_n, am_uu, ne_eq, Nat.reduceAdd, Int.reduceAdd, Int.reduceNeg, Int.reduceLE, Int.reduceToNat, true_and, and_true, List.length_cons, List.length_nil, Nat.reduceLeDiff, Nat.zero_add, Nat.add_zero, Nat.le_refl, true_or, or_true, reduceCtorEq, false_implies, implies_true, true_implies, not_true_eq_false, not_false_eq_true, eq_self, Int.zero_add, Int.reduceEq, Nat.reduceEqDiff]
  refine sp_picked ?_
  refine am_run 400 ?_; simp (disch := omega) only [ow_15, rt_15, rn_15_0, rn_15_3, rn_15_4, rn_15_7, rn_15_10, rn_15_11, rn_15_12, rn_15_13, rn_15_14, rn_15_17, rn_15_18, rn_15_19, rn_15_21, rf_15_21, rn_15_23, rn_15_24, rn_15_27, rn_15_29, rn_15_30, rn_15_33, rn_15_34, rn_15_35, rn_15_36, rn_15_37, rn_15_40, rn_15_43, rn_15_44, s_sipush_1728, s_iload_n_1, s_ivs, am_isv_1, am_isv_3, am_isv_5, s_acp, am_cpq_e, am_po_s, am_po_n, am_sl_n, am_sl_i, am_sl_r, am_sl_l, ml_1_113, cq_25, ml_1_132, cq_163, s_ishr, s_istore_n_2, am_kil_n, am_kil_i, am_kil_r, am_kil_l, s_aload_n_0, s_ivv, am_ivq_e, am_cvq_e, ml_1_137, cq_50, s_istore_n_3, s_iconst_0, s_istore_4, s_iload_4, s_iload_n_3, s_if2_ge, jm_24_19, s_iconst_3, jm_30_13, s_iload_n_2, s_idiv, s_iinc_4, s_goto, jm_40_m19, s_irt, am_irq_1, am_irq_2, Int.le_refl, am_c3, am_c4, am_c6, am_c7, am_c8, am_c9, am_c27, am_c60, am_c240, am_c418, am_c3500, am_up_s, am_up_n, am_uu, ne_eq, Nat.reduceAdd, Int.reduceAdd, Int.reduceNeg, Int.reduceLE, Int.reduceToNat, true_and, and_true, List.length_cons, List.length_nil, Nat.reduceLeDiff, Nat.zero_add, Nat.add_zero, Nat.le_refl, true_or, or_true, reduceCtorEq, false_implies, implies_true, true_implies, not_true_eq_false, not_false_eq_true, eq_self, Int.zero_add, Int.reduceEq, Nat.reduceEqDiff]
  have h6 : 0 ≤ st_picked s ∧ st_picked s < 64 := and63 _
  have hb := bits6_rng h6
  have hc := bsc_rng (gs := gs) (s := s)
  refine sp_bitCount h6 ?_
  refine am_run 400 ?_; simp (disch := omega) only [ow_15, rt_15, rn_15_0, rn_15_3, rn_15_4, rn_15_7, rn_15_10, rn_15_11, rn_15_12, rn_15_13, rn_15_14, rn_15_17, rn_15_18, rn_15_19, rn_15_21, rf_15_21, rn_15_23, rn_15_24, rn_15_27, rn_15_29, rn_15_30, rn_15_33, rn_15_34, rn_15_35, rn_15_36, rn_15_37, rn_15_40, rn_15_43, rn_15_44, s_sipush_1728, s_iload_n_1, s_ivs, am_isv_1, am_isv_3, am_isv_5, s_acp, am_cpq_e, am_po_s, am_po_n, am_sl_n, am_sl_i, am_sl_r, am_sl_l, ml_1_113, cq_25, ml_1_132, cq_163, s_ishr, s_istore_n_2, am_kil_n, am_kil_i, am_kil_r, am_kil_l, s_aload_n_0, s_ivv, am_ivq_e, am_cvq_e, ml_1_137, cq_50, s_istore_n_3, s_iconst_0, s_istore_4, s_iload_4, s_iload_n_3, s_if2_ge, jm_24_19, s_iconst_3, jm_30_13, s_iload_n_2, s_idiv, s_iinc_4, s_goto, jm_40_m19, s_irt, am_irq_1, am_irq_2, Int.le_refl, am_c3, am_c4, am_c6, am_c7, am_c8, am_c9, am_c27, am_c60, am_c240, am_c418, am_c3500, am_up_s, am_up_n, am_uu, ne_eq, Nat.reduceAdd, Int.reduceAdd, Int.reduceNeg, Int.reduceLE, Int.reduceToNat, true_and, and_true, List.length_cons, List.length_nil, Nat.reduceLeDiff, Nat.zero_add, Nat.add_zero, Nat.le_refl, true_or, or_true, reduceCtorEq, false_implies, implies_true, true_implies, not_true_eq_false, not_false_eq_true, eq_self, Int.zero_add, Int.reduceEq, Nat.reduceEqDiff, hS.1]
  have e1 : am_shr 1728 (bits6 (st_picked s)) = 1728 / 2 ^ (bits6 (st_picked s)).toNat := by
    have := shr_1728 ⟨(bits6 (st_picked s)).toNat, by omega⟩
    dsimp only at this
    rw [Int.toNat_of_nonneg hb.1] at this
    exact this
  refine sp_boundSince hW ?_
  rw [e1]
  refine am_run 400 ?_; simp (disch := omega) only [ow_15, rt_15, rn_15_0, rn_15_3, rn_15_4, rn_15_7, rn_15_10, rn_15_11, rn_15_12, rn_15_13, rn_15_14, rn_15_17, rn_15_18, rn_15_19, rn_15_21, rf_15_21, rn_15_23, rn_15_24, rn_15_27, rn_15_29, rn_15_30, rn_15_33, rn_15_34, rn_15_35, rn_15_36, rn_15_37, rn_15_40, rn_15_43, rn_15_44, s_sipush_1728, s_iload_n_1, s_ivs, am_isv_1, am_isv_3, am_isv_5, s_acp, am_cpq_e, am_po_s, am_po_n, am_sl_n, am_sl_i, am_sl_r, am_sl_l, ml_1_113, cq_25, ml_1_132, cq_163, s_ishr, s_istore_n_2, am_kil_n, am_kil_i, am_kil_r, am_kil_l, s_aload_n_0, s_ivv, am_ivq_e, am_cvq_e, ml_1_137, cq_50, s_istore_n_3, s_iconst_0, s_istore_4, s_iload_4, s_iload_n_3, s_if2_ge, jm_24_19, s_iconst_3, jm_30_13, s_iload_n_2, s_idiv, s_iinc_4, s_goto, jm_40_m19, s_irt, am_irq_1, am_irq_2, Int.le_refl, am_c3, am_c4, am_c6, am_c7, am_c8, am_c9, am_c27, am_c60, am_c240, am_c418, am_c3500, am_up_s, am_up_n, am_uu, ne_eq, Nat.reduceAdd, Int.reduceAdd, Int.reduceNeg, Int.reduceLE, Int.reduceToNat, true_and, and_true, List.length_cons, List.length_nil, Nat.reduceLeDiff, Nat.zero_add, Nat.add_zero, Nat.le_refl, true_or, or_true, reduceCtorEq, false_implies, implies_true, true_implies, not_true_eq_false, not_false_eq_true, eq_self, Int.zero_add, Int.reduceEq, Nat.reduceEqDiff, hS.1]
  unfold thr at k
  generalize sm 3 (bsc gs s) = c at *
  have hA : 0 ≤ (1728 : Int) / 2 ^ (bits6 (st_picked s)).toNat ∧ (1728 : Int) / 2 ^ (bits6 (st_picked s)).toNat ≤ 1728 := by
    have : ∀ (b : Fin 7), 0 ≤ (1728 : Int) / 2 ^ b.val ∧ (1728 : Int) / 2 ^ b.val ≤ 1728 := by decide +kernel
    exact this ⟨(bits6 (st_picked s)).toNat, by omega⟩
  generalize (1728 : Int) / 2 ^ (bits6 (st_picked s)).toNat = A at *
  have td : ∀ x : Int, 0 ≤ x → x.tdiv 3 = x / 3 := fun x hx => Int.tdiv_eq_ediv_of_nonneg hx
  refine am_runH 400 ?_; simp (disch := omega) only [ow_15, rt_15, rn_15_0, rn_15_3, rn_15_4, rn_15_7, rn_15_10, rn_15_11, rn_15_12, rn_15_13, rn_15_14, rn_15_17, rn_15_18, rn_15_19, rn_15_21, rf_15_21, rn_15_23, rn_15_24, rn_15_27, rn_15_29, rn_15_30, rn_15_33, rn_15_34, rn_15_35, rn_15_36, rn_15_37, rn_15_40, rn_15_43, rn_15_44, s_sipush_1728, s_iload_n_1, s_ivs, am_isv_1, am_isv_3, am_isv_5, s_acp, am_cpq_e, am_po_s, am_po_n, am_sl_n, am_sl_i, am_sl_r, am_sl_l, ml_1_113, cq_25, ml_1_132, cq_163, s_ishr, s_istore_n_2, am_kil_n, am_kil_i, am_kil_r, am_kil_l, s_aload_n_0, s_ivv, am_ivq_e, am_cvq_e, ml_1_137, cq_50, s_istore_n_3, s_iconst_0, s_istore_4, s_iload_4, s_iload_n_3, s_if2_ge, jm_24_19, s_iconst_3, jm_30_13, s_iload_n_2, s_idiv, s_iinc_4, s_goto, jm_40_m19, s_irt, am_irq_1, am_irq_2, Int.le_refl, am_c3, am_c4, am_c6, am_c7, am_c8, am_c9, am_c27, am_c60, am_c240, am_c418, am_c3500, am_up_s, am_up_n, am_uu, ne_eq, Nat.reduceAdd, Int.reduceAdd, Int.reduceNeg, Int.reduceLE, Int.reduceToNat, true_and, and_true, List.length_cons, List.length_nil, Nat.reduceLeDiff, Nat.zero_add, Nat.add_zero, Nat.le_refl, true_or, or_true, reduceCtorEq, false_implies, implies_true, true_implies, not_true_eq_false, not_false_eq_true, eq_self, Int.zero_add, Int.reduceEq, Nat.reduceEqDiff, wr_ok, td]
  refine ⟨fun q => ?_, fun q => ?_⟩
  · obtain rfl : c = 0 := by omega
    rw [show A / 3 ^ (0 : Int).toNat = A from Int.ediv_one A] at k
    exact k
  refine am_runH 400 ?_; simp (disch := omega) only [ow_15, rt_15, rn_15_0, rn_15_3, rn_15_4, rn_15_7, rn_15_10, rn_15_11, rn_15_12, rn_15_13, rn_15_14, rn_15_17, rn_15_18, rn_15_19, rn_15_21, rf_15_21, rn_15_23, rn_15_24, rn_15_27, rn_15_29, rn_15_30, rn_15_33, rn_15_34, rn_15_35, rn_15_36, rn_15_37, rn_15_40, rn_15_43, rn_15_44, s_sipush_1728, s_iload_n_1, s_ivs, am_isv_1, am_isv_3, am_isv_5, s_acp, am_cpq_e, am_po_s, am_po_n, am_sl_n, am_sl_i, am_sl_r, am_sl_l, ml_1_113, cq_25, ml_1_132, cq_163, s_ishr, s_istore_n_2, am_kil_n, am_kil_i, am_kil_r, am_kil_l, s_aload_n_0, s_ivv, am_ivq_e, am_cvq_e, ml_1_137, cq_50, s_istore_n_3, s_iconst_0, s_istore_4, s_iload_4, s_iload_n_3, s_if2_ge, jm_24_19, s_iconst_3, jm_30_13, s_iload_n_2, s_idiv, s_iinc_4, s_goto, jm_40_m19, s_irt, am_irq_1, am_irq_2, Int.le_refl, am_c3, am_c4, am_c6, am_c7, am_c8, am_c9, am_c27, am_c60, am_c240, am_c418, am_c3500, am_up_s, am_up_n, am_uu, ne_eq, Nat.reduceAdd, Int.reduceAdd, Int.reduceNeg, Int.reduceLE, Int.reduceToNat, true_and, and_true, List.length_cons, List.length_nil, Nat.reduceLeDiff, Nat.zero_add, Nat.add_zero, Nat.le_refl, true_or, or_true, reduceCtorEq, false_implies, implies_true, true_implies, not_true_eq_false, not_false_eq_true, eq_self, Int.zero_add, Int.reduceEq, Nat.reduceEqDiff, wr_ok, td]
  refine ⟨fun q => ?_, fun q => ?_⟩
  · obtain rfl : c = 1 := by omega
    exact k
  refine am_runH 400 ?_; simp (disch := omega) only [ow_15, rt_15, rn_15_0, rn_15_3, rn_15_4, rn_15_7, rn_15_10, rn_15_11, rn_15_12, rn_15_13, rn_15_14, rn_15_17, rn_15_18, rn_15_19, rn_15_21, rf_15_21, rn_15_23, rn_15_24, rn_15_27, rn_15_29, rn_15_30, rn_15_33, rn_15_34, rn_15_35, rn_15_36, rn_15_37, rn_15_40, rn_15_43, rn_15_44, s_sipush_1728, s_iload_n_1, s_ivs, am_isv_1, am_isv_3, am_isv_5, s_acp, am_cpq_e, am_po_s, am_po_n, am_sl_n, am_sl_i, am_sl_r, am_sl_l, ml_1_113, cq_25, ml_1_132, cq_163, s_ishr, s_istore_n_2, am_kil_n, am_kil_i, am_kil_r, am_kil_l, s_aload_n_0, s_ivv, am_ivq_e, am_cvq_e, ml_1_137, cq_50, s_istore_n_3, s_iconst_0, s_istore_4, s_iload_4, s_iload_n_3, s_if2_ge, jm_24_19, s_iconst_3, jm_30_13, s_iload_n_2, s_idiv, s_iinc_4, s_goto, jm_40_m19, s_irt, am_irq_1, am_irq_2, Int.le_refl, am_c3, am_c4, am_c6, am_c7, am_c8, am_c9, am_c27, am_c60, am_c240, am_c418, am_c3500, am_up_s, am_up_n, am_uu, ne_eq, Nat.reduceAdd, Int.reduceAdd, Int.reduceNeg, Int.reduceLE, Int.reduceToNat, true_and, and_true, List.length_cons, List.length_nil, Nat.reduceLeDiff, Nat.zero_add, Nat.add_zero, Nat.le_refl, true_or, or_true, reduceCtorEq, false_implies, implies_true, true_implies, not_true_eq_false, not_false_eq_true, eq_self, Int.zero_add, Int.reduceEq, Nat.reduceEqDiff, wr_ok, td]
  refine ⟨fun q => ?_, fun q => ?_⟩
  · obtain rfl : c = 2 := by omega
    rw [show A / 3 ^ (2 : Int).toNat = A / 3 / 3 by rw [Int.ediv_ediv_of_nonneg (by omega)]; rfl] at k
    exact k
  obtain rfl : c = 3 := by omega
  refine am_runH 400 ?_; simp (disch := omega) only [ow_15, rt_15, rn_15_0, rn_15_3, rn_15_4, rn_15_7, rn_15_10, rn_15_11, rn_15_12, rn_15_13, rn_15_14, rn_15_17, rn_15_18, rn_15_19, rn_15_21, rf_15_21, rn_15_23, rn_15_24, rn_15_27, rn_15_29, rn_15_30, rn_15_33, rn_15_34, rn_15_35, rn_15_36, rn_15_37, rn_15_40, rn_15_43, rn_15_44, s_sipush_1728, s_iload_n_1, s_ivs, am_isv_1, am_isv_3, am_isv_5, s_acp, am_cpq_e, am_po_s, am_po_n, am_sl_n, am_sl_i, am_sl_r, am_sl_l, ml_1_113, cq_25, ml_1_132, cq_163, s_ishr, s_istore_n_2, am_kil_n, am_kil_i, am_kil_r, am_kil_l, s_aload_n_0, s_ivv, am_ivq_e, am_cvq_e, ml_1_137, cq_50, s_istore_n_3, s_iconst_0, s_istore_4, s_iload_4, s_iload_n_3, s_if2_ge, jm_24_19, s_iconst_3, jm_30_13, s_iload_n_2, s_idiv, s_iinc_4, s_goto, jm_40_m19, s_irt, am_irq_1, am_irq_2, Int.le_refl, am_c3, am_c4, am_c6, am_c7, am_c8, am_c9, am_c27, am_c60, am_c240, am_c418, am_c3500, am_up_s, am_up_n, am_uu, ne_eq, Nat.reduceAdd, Int.reduceAdd, Int.reduceNeg, Int.reduceLE, Int.reduceToNat, true_and, and_true, List.length_cons, List.length_nil, Nat.reduceLeDiff, Nat.zero_add, Nat.add_zero, Nat.le_refl, true_or, or_true, reduceCtorEq, false_implies, implies_true, true_implies, not_true_eq_false, not_false_eq_true, eq_self, Int.zero_add, Int.reduceEq, Nat.reduceEqDiff, wr_ok, td]
  rw [show A / 3 ^ (3 : Int).toNat = A / 3 / 3 / 3 by rw [Int.ediv_ediv_of_nonneg (by omega), Int.ediv_ediv_of_nonneg (by omega)]; rfl] at k
  exact k
theorem fTh_rng {v : Int} : ∀ j : Nat, 0 ≤ fo (fTh gs e v) 0 L j ∧ fo (fTh gs e v) 0 L j ≤ 1728 * j
  | 0 => ⟨Int.le_refl _, Int.le_refl _⟩
  | j + 1 => by
    have := fTh_rng (v := v) j
    have := thr_rng (gs := gs) (s := L.getD j 0)
    rw [fo_s]
    by_cases q : (e (L.getD j 0)).1 = v
    · rw [fTh_1 q]; omega
    · rw [fTh_0 q]; omega
theorem lp_throwsOf {v : Int} (hO : RO h r L e) (hW : WR h w fns tms gs) (k : K (some (iV (fo (fTh gs e v) 0 L L.length))) n h) :
    ∀ (kk j : Nat), j + kk = L.length → am_W 14 n (am_M (d + 3)) K 5 [some (rV r), some (rV w), some (iV v), some (iV (fo (fTh gs e v) 0 L j)), some (iV j)] [] n h := by
  obtain ⟨sd, ou, lk, to, tl, ⟨r1, r2, r3, r4, r5, r6, r7, r8, r9, r10, r11⟩, h4, es, eo, el⟩ := hO.out
  intro kk
  induction kk with
  | zero =>
    intro j hj
    obtain rfl : j = L.length := by omega
    refine am_runH 400 ?_; simp (disch := omega) only [ow_14, rt_14, rn_14_0, rn_14_1, rn_14_2, rn_14_3, rn_14_5, rf_14_5, rn_14_7, rn_14_8, rn_14_11, rn_14_14, rn_14_15, rn_14_18, rn_14_20, rn_14_21, rn_14_22, rn_14_25, rn_14_26, rn_14_27, rn_14_28, rn_14_31, rn_14_33, rn_14_34, rn_14_37, rn_14_38, rn_14_39, rn_14_42, rn_14_45, rn_14_46, s_iconst_0, s_istore_n_3, am_kil_n, am_kil_i, am_kil_r, am_kil_l, s_istore_4, s_iload_4, s_aload_n_0, s_gf, am_gfq_e, am_nth_0, am_nth_s, fl_1_27, s_if2_ge, jm_11_34, fl_1_15, s_iald, am_iaq_e, s_iload_n_2, s_if2_ne, jm_22_17, s_iload_n_3, s_aload_n_1, fl_1_11, s_ivs, am_isv_1, am_isv_3, am_isv_5, s_acp, am_cpq_e, am_po_s, am_po_n, am_sl_n, am_sl_i, am_sl_r, am_sl_l, ml_1_128, cq_15, s_iadd, s_iinc_4, s_goto, jm_42_m37, s_irt, am_irq_1, am_irq_2, Int.le_refl, am_c3, am_c4, am_c6, am_c7, am_c8, am_c9, am_c27, am_c60, am_c240, am_c418, am_c3500, am_up_s, am_up_n, am_uu, ne_eq, Nat.reduceAdd, Int.reduceAdd, Int.reduceNeg, Int.reduceLE, Int.reduceToNat, true_and, and_true, List.length_cons, List.length_nil, Nat.reduceLeDiff, Nat.zero_add, Nat.add_zero, Nat.le_refl, true_or, or_true, reduceCtorEq, false_implies, implies_true, true_implies, not_true_eq_false, not_false_eq_true, eq_self, Int.zero_add, Int.reduceEq, Nat.reduceEqDiff, r1, r3, r8, Int.toNat_natCast]
    exact k
  | succ kk ih =>
    intro j hj
    have hc := fTh_rng (gs := gs) (e := e) (L := L) (v := v) j
    have ht := thr_rng (gs := gs) (s := L.getD j 0)
    have hn := ih (j + 1) (by omega)
    rw [fo_s, ci1] at hn
    refine am_runH 400 ?_; simp (disch := omega) only [ow_14, rt_14, rn_14_0, rn_14_1, rn_14_2, rn_14_3, rn_14_5, rf_14_5, rn_14_7, rn_14_8, rn_14_11, rn_14_14, rn_14_15, rn_14_18, rn_14_20, rn_14_21, rn_14_22, rn_14_25, rn_14_26, rn_14_27, rn_14_28, rn_14_31, rn_14_33, rn_14_34, rn_14_37, rn_14_38, rn_14_39, rn_14_42, rn_14_45, rn_14_46, s_iconst_0, s_istore_n_3, am_kil_n, am_kil_i, am_kil_r, am_kil_l, s_istore_4, s_iload_4, s_aload_n_0, s_gf, am_gfq_e, am_nth_0, am_nth_s, fl_1_27, s_if2_ge, jm_11_34, fl_1_15, s_iald, am_iaq_e, s_iload_n_2, s_if2_ne, jm_22_17, s_iload_n_3, s_aload_n_1, fl_1_11, s_ivs, am_isv_1, am_isv_3, am_isv_5, s_acp, am_cpq_e, am_po_s, am_po_n, am_sl_n, am_sl_i, am_sl_r, am_sl_l, ml_1_128, cq_15, s_iadd, s_iinc_4, s_goto, jm_42_m37, s_irt, am_irq_1, am_irq_2, Int.le_refl, am_c3, am_c4, am_c6, am_c7, am_c8, am_c9, am_c27, am_c60, am_c240, am_c418, am_c3500, am_up_s, am_up_n, am_uu, ne_eq, Nat.reduceAdd, Int.reduceAdd, Int.reduceNeg, Int.reduceLE, Int.reduceToNat, true_and, and_true, List.length_cons, List.length_nil, Nat.reduceLeDiff, Nat.zero_add, Nat.add_zero, Nat.le_refl, true_or, or_true, reduceCtorEq, false_implies, implies_true, true_implies, not_true_eq_false, not_false_eq_true, eq_self, Int.zero_add, Int.reduceEq, Nat.reduceEqDiff, r1, r2, r3, r7, r8, Int.toNat_natCast, eo j (by omega), es j (by omega), wr_ok]
    refine ⟨fun q => by omega, fun _ => ⟨by omega, fun q => ?_, fun q => ?_⟩⟩
    · rw [fTh_0 (by omega)] at hn
      exact hn
    · rw [fTh_1 (by omega)] at hn
      refine ⟨by omega, sp_throwsIn hW ?_⟩
      refine am_run 400 ?_; simp (disch := omega) only [ow_14, rt_14, rn_14_0, rn_14_1, rn_14_2, rn_14_3, rn_14_5, rf_14_5, rn_14_7, rn_14_8, rn_14_11, rn_14_14, rn_14_15, rn_14_18, rn_14_20, rn_14_21, rn_14_22, rn_14_25, rn_14_26, rn_14_27, rn_14_28, rn_14_31, rn_14_33, rn_14_34, rn_14_37, rn_14_38, rn_14_39, rn_14_42, rn_14_45, rn_14_46, s_iconst_0, s_istore_n_3, am_kil_n, am_kil_i, am_kil_r, am_kil_l, s_istore_4, s_iload_4, s_aload_n_0, s_gf, am_gfq_e, am_nth_0, am_nth_s, fl_1_27, s_if2_ge, jm_11_34, fl_1_15, s_iald, am_iaq_e, s_iload_n_2, s_if2_ne, jm_22_17, s_iload_n_3, s_aload_n_1, fl_1_11, s_ivs, am_isv_1, am_isv_3, am_isv_5, s_acp, am_cpq_e, am_po_s, am_po_n, am_sl_n, am_sl_i, am_sl_r, am_sl_l, ml_1_128, cq_15, s_iadd, s_iinc_4, s_goto, jm_42_m37, s_irt, am_irq_1, am_irq_2, Int.le_refl, am_c3, am_c4, am_c6, am_c7, am_c8, am_c9, am_c27, am_c60, am_c240, am_c418, am_c3500, am_up_s, am_up_n, am_uu, ne_eq, Nat.reduceAdd, Int.reduceAdd, Int.reduceNeg, Int.reduceLE, Int.reduceToNat, true_and, and_true, List.length_cons, List.length_nil, Nat.reduceLeDiff, Nat.zero_add, Nat.add_zero, Nat.le_refl, true_or, or_true, reduceCtorEq, false_implies, implies_true, true_implies, not_true_eq_false, not_false_eq_true, eq_self, Int.zero_add, Int.reduceEq, Nat.reduceEqDiff, wr_ok]
      exact hn
theorem sp_throwsOf {v : Int} (hO : RO h r L e) (hW : WR h w fns tms gs) (k : K (some (iV (fo (fTh gs e v) 0 L L.length))) n h) : am_M (d + 4) 14 [rV r, rV w, iV v] n h K := by
  refine en_14 (am_run 400 ?_); simp (disch := omega) only [ow_14, rt_14, rn_14_0, rn_14_1, rn_14_2, rn_14_3, rn_14_5, rf_14_5, rn_14_7, rn_14_8, rn_14_11, rn_14_14, rn_14_15, rn_14_18, rn_14_20, rn_14_21, rn_14_22, rn_14_25, rn_14_26, rn_14_27, rn_14_28, rn_14_31, rn_14_33, rn_14_34, rn_14_37, rn_14_38, rn_14_39, rn_14_42, rn_14_45, rn_14_46, s_iconst_0, s_istore_n_3, am_kil_n, am_kil_i, am_kil_r, am_kil_l, s_istore_4, s_iload_4, s_aload_n_0, s_gf, am_gfq_e, am_nth_0, am_nth_s, fl_1_27, s_if2_ge, jm_11_34, fl_1_15, s_iald, am_iaq_e, s_iload_n_2, s_if2_ne, jm_22_17, s_iload_n_3, s_aload_n_1, fl_1_11, s_ivs, am_isv_1, am_isv_3, am_isv_5, s_acp, am_cpq_e, am_po_s, am_po_n, am_sl_n, am_sl_i, am_sl_r, am_sl_l, ml_1_128, cq_15, s_iadd, s_iinc_4, s_goto, jm_42_m37, s_irt, am_irq_1, am_irq_2, Int.le_refl, am_c3, am_c4, am_c6, am_c7, am_c8, am_c9, am_c27, am_c60, am_c240, am_c418, am_c3500, am_up_s, am_up_n, am_uu, ne_eq, Nat.reduceAdd, Int.reduceAdd, Int.reduceNeg, Int.reduceLE, Int.reduceToNat, true_and, and_true, List.length_cons, List.length_nil, Nat.reduceLeDiff, Nat.zero_add, Nat.add_zero, Nat.le_refl, true_or, or_true, reduceCtorEq, false_implies, implies_true, true_implies, not_true_eq_false, not_false_eq_true, eq_self, Int.zero_add, Int.reduceEq, Nat.reduceEqDiff]
  exact lp_throwsOf hO hW k L.length 0 (by omega)
end
