/-! CLASS 7: readings -/
section
variable {d n : Nat} {h : am_H} {K : am_K} {P : PS} {fns : List FnT}
/-- readings changed -/
theorem CR.rdx {h' : am_H} {rd : List (Int × Int)} (c : CR h P fns) (f : ∀ q, q ≠ 1 → q ≠ 56 → q ≠ 57 → h' q = h q) (e : h' 1 = cO rd.length P.tr P.ft) (e1 : ∃ l : List Int, h' 56 = aC l ∧ l.length = 8 ∧ ∀ i, i < rd.length → l.getD i 0 = (rd.getD i rd0).1) (e2 : ∃ l : List Int, h' 57 = aC l ∧ l.length = 8 ∧ ∀ i, i < rd.length → l.getD i 0 = (rd.getD i rd0).2) : CR h' (P.un P.fns P.tms P.gs rd) fns := by
  obtain ⟨c1, c2, c3, c4, c5, c6, ⟨fc, tc, F, T, gs, c7⟩, ⟨cnt, sd, ou, lk, to, tl, c8⟩, ⟨y0, y1, y2, y3, c9⟩, c10, c11⟩ := c
  refine ⟨e, ?_, fun j hj => (c3 j hj).frame (fun q h1 h2 => f q (by omega) (by omega) (by omega)), c4.frame (fun q h1 h2 => f q (by omega) (by omega) (by omega)), c5, c6, ⟨fc, tc, F, T, gs, c7.frame (fun q h1 h2 => f q (by omega) (by omega) (by omega))⟩, ⟨cnt, sd, ou, lk, to, tl, c8.frame (fun q h1 h2 => f q (by omega) (by omega) (by omega))⟩, ⟨y0, y1, y2, y3, ?_⟩, e1, e2⟩
  · rw [f _ (by omega) (by omega) (by omega)]; exact c2
  · rw [f _ (by omega) (by omega) (by omega)]; exact c9
theorem gd_tk {α : Type} {l : List α} {i m : Nat} {e : α} (hi : i < m) : (l.take m).getD i e = l.getD i e := by
  rw [List.getD_eq_getElem?_getD, List.getD_eq_getElem?_getD, List.getElem?_take_of_lt hi]
theorem cl_back {m : Int} (hm : inR m) (pv : PV P) (c : CR h P fns) (k : ∀ h' fns', CR h' (op_back P m).2 fns' → FrC h h' → K (some (iV (op_back P m).1)) n h') : am_M (d + 1) 67 [rV 1, iV m] n h K := by
  unfold op_back at k
  have l8 := pv.lr
  refine en_67 (am_run 400 ?_); simp (disch := omega) only [ow_67, rt_67, rn_67_0, rn_67_1, rn_67_4, rn_67_5, rn_67_6, rn_67_9, rn_67_12, rn_67_14, rn_67_15, rn_67_16, rn_67_17, rn_67_20, rn_67_21, rn_67_22, rn_67_25, rn_67_26, rn_67_29, s_iload_n_1, s_if1_lt, jm_1_11, s_aload_n_0, s_gf, am_gfq_e, am_nth_0, am_nth_s, fl_6_82, s_if2_le, jm_9_6, s_bipush_m2, s_irt, am_irq_1, am_irq_2, s_dup_i, s_dup_r, s_isub, s_pf, am_pfq_e, am_fit_0, am_fit_1, am_fit_2, List.set_cons_zero, List.set_cons_succ, Nat.reduceLT, Bool.false_eq_true, Nat.lt_add_one, Nat.zero_lt_succ, fk_6_7, ff_6_7, in_67, Int.le_refl, am_c3, am_c4, am_c6, am_c7, am_c8, am_c9, am_c27, am_c60, am_c240, am_c418, am_c3500, am_up_s, am_up_n, am_uu, ne_eq, Nat.reduceAdd, Int.reduceAdd, Int.reduceNeg, Int.reduceLE, Int.reduceToNat, true_and, and_true, List.length_cons, List.length_nil, Nat.reduceLeDiff, Nat.zero_add, Nat.add_zero, Nat.le_refl, true_or, or_true, reduceCtorEq, false_implies, implies_true, true_implies, not_true_eq_false, not_false_eq_true, eq_self, Int.zero_add, Int.reduceEq, Nat.reduceEqDiff, c.ob]
  refine ⟨fun q => ?_, fun q => ⟨fun q1 => ?_, fun q1 => ?_⟩⟩
  · rw [if_pos (by omega)] at k
    exact k h fns c FrC.rf
  · rw [if_neg (by omega)] at k
    rw [wr_ok (by omega) (by omega)]
    have le : (P.rd.take (P.rd.length - m.toNat)).length = P.rd.length - m.toNat := by rw [List.length_take]; omega
    obtain ⟨m1, a1, a2, a3⟩ := c.2.2.2.2.2.2.2.2.2.1
    obtain ⟨m2, b1, b2, b3⟩ := c.2.2.2.2.2.2.2.2.2.2
    refine k _ fns (c.rdx (fun q h1 _ _ => am_up_n h1) ?_ ⟨m1, by rw [am_up_n (by omega)]; exact a1, a2, fun i hi => ?_⟩ ⟨m2, by rw [am_up_n (by omega)]; exact b1, b2, fun i hi => ?_⟩) (FrC.rf.up (by omega) (by omega))
    · rw [am_up_s, le, show ((P.rd.length - m.toNat : Nat) : Int) = P.rd.length - m by omega]
    · rw [le] at hi
      rw [gd_tk hi]
      exact a3 i (by omega)
    · rw [le] at hi
      rw [gd_tk hi]
      exact b3 i (by omega)
  · rw [if_pos (by omega)] at k
    exact k h fns c FrC.rf
theorem cl_reading {t v : Int} (pv : PV P) (c : CR h P fns) (k : ∀ h' fns', CR h' (op_reading P t v).2 fns' → FrC h h' → K (some (iV (op_reading P t v).1)) n h') : am_M (d + 3) 66 [rV 1, iV t, iV v] n h K := by
  unfold op_reading at k
  have l8 := pv.lr
  obtain ⟨l1, l2, F, T, hS, hF, hT⟩ := id c.wo
  refine en_66 (am_run 400 ?_); simp (disch := omega) only [ow_66, rt_66, rn_66_0, rn_66_1, rn_66_4, rn_66_5, rn_66_8, rn_66_11, rn_66_12, rn_66_13, rn_66_14, rn_66_16, rn_66_19, rn_66_20, rn_66_23, rn_66_26, rn_66_29, rn_66_31, rn_66_32, rn_66_33, rn_66_36, rn_66_38, rn_66_41, rn_66_43, rn_66_44, rn_66_45, rn_66_48, rn_66_49, rn_66_52, rn_66_53, rn_66_54, rn_66_55, rn_66_58, rn_66_59, rn_66_62, rn_66_63, rn_66_64, rn_66_65, rn_66_66, rn_66_69, rn_66_70, rn_66_71, rn_66_74, rn_66_75, rn_66_78, rn_66_79, rn_66_80, s_aload_n_0, s_gf, am_gfq_e, am_nth_0, am_nth_s, fl_6_21, s_iload_n_1, s_ivv, am_ivq_e, am_cvq_e, am_po_s, am_po_n, am_sl_n, am_sl_i, am_sl_r, am_sl_l, ml_6_114, cq_44, s_ifnn_n, s_ifnn_s, jm_8_5, s_iconst_m1, s_irt, am_irq_1, am_irq_2, s_iload_n_2, s_bipush_m9, s_if2_eq, jm_16_16, s_sipush_201, s_ivs, am_isv_1, am_isv_3, am_isv_5, s_acp, am_cpq_e, ml_6_57, cq_82, s_if1_ne, jm_26_6, s_bipush_m2, fl_6_82, s_bipush_8, s_if2_lt, jm_38_6, s_bipush_m4, fl_6_42, s_iast, am_iwq_e, fl_6_46, s_dup_i, s_dup_r, s_iconst_1, s_iadd, s_pf, am_pfq_e, am_fit_0, am_fit_1, am_fit_2, List.set_cons_zero, List.set_cons_succ, Nat.reduceLT, Bool.false_eq_true, Nat.lt_add_one, Nat.zero_lt_succ, fk_6_7, ff_6_7, in_66, s_isub, Int.le_refl, am_c3, am_c4, am_c6, am_c7, am_c8, am_c9, am_c27, am_c60, am_c240, am_c418, am_c3500, am_up_s, am_up_n, am_uu, ne_eq, Nat.reduceAdd, Int.reduceAdd, Int.reduceNeg, Int.reduceLE, Int.reduceToNat, true_and, and_true, List.length_cons, List.length_nil, Nat.reduceLeDiff, Nat.zero_add, Nat.add_zero, Nat.le_refl, true_or, or_true, reduceCtorEq, false_implies, implies_true, true_implies, not_true_eq_false, not_false_eq_true, eq_self, Int.zero_add, Int.reduceEq, Nat.reduceEqDiff, c.ob, hS.1]
  refine sp_termAt hS (by omega) (fun q => ?_) (fun q => ?_)
  · rw [if_neg (by omega)] at k
    obtain ⟨m1, a1, a2, a3⟩ := c.2.2.2.2.2.2.2.2.2.1
    obtain ⟨m2, b1, b2, b3⟩ := c.2.2.2.2.2.2.2.2.2.2
    have fin : P.rd.length < 8 → CR (am_up (am_up (am_up h 56 (aC (m1.set P.rd.length t))) 57 (aC (m2.set P.rd.length v))) 1 (cO (P.rd.length + 1) P.tr P.ft)) (P.un P.fns P.tms P.gs (P.rd ++ [(t, v)])) fns := by
      intro h8
      refine c.rdx (fun q h1 h2 h3 => by rw [am_up_n h1, am_up_n h3, am_up_n h2]) ?_ ⟨m1.set P.rd.length t, by rw [am_up_n (by omega), am_up_n (by omega), am_up_s], by simpa using a2, fun i hi => ?_⟩ ⟨m2.set P.rd.length v, by rw [am_up_n (by omega), am_up_s], by simpa using b2, fun i hi => ?_⟩
      · rw [am_up_s, List.length_append, List.length_singleton, ci1]
      · rw [List.length_append, List.length_singleton] at hi
        by_cases z : i = P.rd.length
        · rw [z, gd_ss (by omega), gd_ar rfl]
        · rw [gd_sn (by omega), gd_al (by omega)]
          exact a3 i (by omega)
      · rw [List.length_append, List.length_singleton] at hi
        by_cases z : i = P.rd.length
        · rw [z, gd_ss (by omega), gd_ar rfl]
        · rw [gd_sn (by omega), gd_al (by omega)]
          exact b3 i (by omega)
    have ff : FrC h (am_up (am_up (am_up h 56 (aC (m1.set P.rd.length t))) 57 (aC (m2.set P.rd.length v))) 1 (cO (P.rd.length + 1) P.tr P.ft)) := ((FrC.rf.up (by omega) (by omega)).up (by omega) (by omega)).up (by omega) (by omega)
    have e1 : (P.rd.length : Int) + 1 - 1 = P.rd.length := by omega
    refine am_run 400 ?_; simp (disch := omega) only [ow_66, rt_66, rn_66_0, rn_66_1, rn_66_4, rn_66_5, rn_66_8, rn_66_11, rn_66_12, rn_66_13, rn_66_14, rn_66_16, rn_66_19, rn_66_20, rn_66_23, rn_66_26, rn_66_29, rn_66_31, rn_66_32, rn_66_33, rn_66_36, rn_66_38, rn_66_41, rn_66_43, rn_66_44, rn_66_45, rn_66_48, rn_66_49, rn_66_52, rn_66_53, rn_66_54, rn_66_55, rn_66_58, rn_66_59, rn_66_62, rn_66_63, rn_66_64, rn_66_65, rn_66_66, rn_66_69, rn_66_70, rn_66_71, rn_66_74, rn_66_75, rn_66_78, rn_66_79, rn_66_80, s_aload_n_0, s_gf, am_gfq_e, am_nth_0, am_nth_s, fl_6_21, s_iload_n_1, s_ivv, am_ivq_e, am_cvq_e, am_po_s, am_po_n, am_sl_n, am_sl_i, am_sl_r, am_sl_l, ml_6_114, cq_44, s_ifnn_n, s_ifnn_s, jm_8_5, s_iconst_m1, s_irt, am_irq_1, am_irq_2, s_iload_n_2, s_bipush_m9, s_if2_eq, jm_16_16, s_sipush_201, s_ivs, am_isv_1, am_isv_3, am_isv_5, s_acp, am_cpq_e, ml_6_57, cq_82, s_if1_ne, jm_26_6, s_bipush_m2, fl_6_82, s_bipush_8, s_if2_lt, jm_38_6, s_bipush_m4, fl_6_42, s_iast, am_iwq_e, fl_6_46, s_dup_i, s_dup_r, s_iconst_1, s_iadd, s_pf, am_pfq_e, am_fit_0, am_fit_1, am_fit_2, List.set_cons_zero, List.set_cons_succ, Nat.reduceLT, Bool.false_eq_true, Nat.lt_add_one, Nat.zero_lt_succ, fk_6_7, ff_6_7, in_66, s_isub, Int.le_refl, am_c3, am_c4, am_c6, am_c7, am_c8, am_c9, am_c27, am_c60, am_c240, am_c418, am_c3500, am_up_s, am_up_n, am_uu, ne_eq, Nat.reduceAdd, Int.reduceAdd, Int.reduceNeg, Int.reduceLE, Int.reduceToNat, true_and, and_true, List.length_cons, List.length_nil, Nat.reduceLeDiff, Nat.zero_add, Nat.add_zero, Nat.le_refl, true_or, or_true, reduceCtorEq, false_implies, implies_true, true_implies, not_true_eq_false, not_false_eq_true, eq_self, Int.zero_add, Int.reduceEq, Nat.reduceEqDiff, c.ob, a1, b1, a2, b2, wr_ok, Int.toNat_natCast, e1]
    refine ⟨fun q1 => ?_, fun q1 => ?_⟩
    · rw [if_neg (by omega)] at k
      refine ⟨fun q2 => ?_, fun q2 => ?_⟩
      · rw [if_neg (by omega)] at k
        exact ⟨by omega, by omega, k _ fns (fin (by omega)) ff⟩
      · rw [if_pos (by omega)] at k
        exact k h fns c FrC.rf
    · refine sp_isBelow (fun q3 => ?_) (fun q3 => ?_)
      · rw [if_neg (by omega)] at k
        refine am_run 400 ?_; simp (disch := omega) only [ow_66, rt_66, rn_66_0, rn_66_1, rn_66_4, rn_66_5, rn_66_8, rn_66_11, rn_66_12, rn_66_13, rn_66_14, rn_66_16, rn_66_19, rn_66_20, rn_66_23, rn_66_26, rn_66_29, rn_66_31, rn_66_32, rn_66_33, rn_66_36, rn_66_38, rn_66_41, rn_66_43, rn_66_44, rn_66_45, rn_66_48, rn_66_49, rn_66_52, rn_66_53, rn_66_54, rn_66_55, rn_66_58, rn_66_59, rn_66_62, rn_66_63, rn_66_64, rn_66_65, rn_66_66, rn_66_69, rn_66_70, rn_66_71, rn_66_74, rn_66_75, rn_66_78, rn_66_79, rn_66_80, s_aload_n_0, s_gf, am_gfq_e, am_nth_0, am_nth_s, fl_6_21, s_iload_n_1, s_ivv, am_ivq_e, am_cvq_e, am_po_s, am_po_n, am_sl_n, am_sl_i, am_sl_r, am_sl_l, ml_6_114, cq_44, s_ifnn_n, s_ifnn_s, jm_8_5, s_iconst_m1, s_irt, am_irq_1, am_irq_2, s_iload_n_2, s_bipush_m9, s_if2_eq, jm_16_16, s_sipush_201, s_ivs, am_isv_1, am_isv_3, am_isv_5, s_acp, am_cpq_e, ml_6_57, cq_82, s_if1_ne, jm_26_6, s_bipush_m2, fl_6_82, s_bipush_8, s_if2_lt, jm_38_6, s_bipush_m4, fl_6_42, s_iast, am_iwq_e, fl_6_46, s_dup_i, s_dup_r, s_iconst_1, s_iadd, s_pf, am_pfq_e, am_fit_0, am_fit_1, am_fit_2, List.set_cons_zero, List.set_cons_succ, Nat.reduceLT, Bool.false_eq_true, Nat.lt_add_one, Nat.zero_lt_succ, fk_6_7, ff_6_7, in_66, s_isub, Int.le_refl, am_c3, am_c4, am_c6, am_c7, am_c8, am_c9, am_c27, am_c60, am_c240, am_c418, am_c3500, am_up_s, am_up_n, am_uu, ne_eq, Nat.reduceAdd, Int.reduceAdd, Int.reduceNeg, Int.reduceLE, Int.reduceToNat, true_and, and_true, List.length_cons, List.length_nil, Nat.reduceLeDiff, Nat.zero_add, Nat.add_zero, Nat.le_refl, true_or, or_true, reduceCtorEq, false_implies, implies_true, true_implies, not_true_eq_false, not_false_eq_true, eq_self, Int.zero_add, Int.reduceEq, Nat.reduceEqDiff, c.ob, a1, b1, a2, b2, wr_ok, Int.toNat_natCast, e1]
        refine ⟨fun q2 => ?_, fun q2 => ?_⟩
        · rw [if_neg (by omega)] at k
          exact ⟨by omega, by omega, k _ fns (fin (by omega)) ff⟩
        · rw [if_pos (by omega)] at k
          exact k h fns c FrC.rf
      · rw [if_pos ⟨q1, q3⟩] at k
        refine am_run 400 ?_; simp (disch := omega) only [ow_66, rt_66, rn_66_0, rn_66_1, rn_66_4, rn_66_5, rn_66_8, rn_66_11, rn_66_12, rn_66_13, rn_66_14, rn_66_16, rn_66_19, rn_66_20, rn_66_23, rn_66_26, rn_66_29, rn_66_31, rn_66_32, rn_66_33, rn_66_36, rn_66_38, rn_66_41, rn_66_43, rn_66_44, rn_66_45, rn_66_48, rn_66_49, rn_66_52, rn_66_53, rn_66_54, rn_66_55, rn_66_58, rn_66_59, rn_66_62, rn_66_63, rn_66_64, rn_66_65, rn_66_66, rn_66_69, rn_66_70, rn_66_71, rn_66_74, rn_66_75, rn_66_78, rn_66_79, rn_66_80, s_aload_n_0, s_gf, am_gfq_e, am_nth_0, am_nth_s, fl_6_21, s_iload_n_1, s_ivv, am_ivq_e, am_cvq_e, am_po_s, am_po_n, am_sl_n, am_sl_i, am_sl_r, am_sl_l, ml_6_114, cq_44, s_ifnn_n, s_ifnn_s, jm_8_5, s_iconst_m1, s_irt, am_irq_1, am_irq_2, s_iload_n_2, s_bipush_m9, s_if2_eq, jm_16_16, s_sipush_201, s_ivs, am_isv_1, am_isv_3, am_isv_5, s_acp, am_cpq_e, ml_6_57, cq_82, s_if1_ne, jm_26_6, s_bipush_m2, fl_6_82, s_bipush_8, s_if2_lt, jm_38_6, s_bipush_m4, fl_6_42, s_iast, am_iwq_e, fl_6_46, s_dup_i, s_dup_r, s_iconst_1, s_iadd, s_pf, am_pfq_e, am_fit_0, am_fit_1, am_fit_2, List.set_cons_zero, List.set_cons_succ, Nat.reduceLT, Bool.false_eq_true, Nat.lt_add_one, Nat.zero_lt_succ, fk_6_7, ff_6_7, in_66, s_isub, Int.le_refl, am_c3, am_c4, am_c6, am_c7, am_c8, am_c9, am_c27, am_c60, am_c240, am_c418, am_c3500, am_up_s, am_up_n, am_uu, ne_eq, Nat.reduceAdd, Int.reduceAdd, Int.reduceNeg, Int.reduceLE, Int.reduceToNat, true_and, and_true, List.length_cons, List.length_nil, Nat.reduceLeDiff, Nat.zero_add, Nat.add_zero, Nat.le_refl, true_or, or_true, reduceCtorEq, false_implies, implies_true, true_implies, not_true_eq_false, not_false_eq_true, eq_self, Int.zero_add, Int.reduceEq, Nat.reduceEqDiff]
        exact k h fns c FrC.rf
  · rw [if_pos (by omega)] at k
    refine am_run 400 ?_; simp (disch := omega) only [ow_66, rt_66, rn_66_0, rn_66_1, rn_66_4, rn_66_5, rn_66_8, rn_66_11, rn_66_12, rn_66_13, rn_66_14, rn_66_16, rn_66_19, rn_66_20, rn_66_23, rn_66_26, rn_66_29, rn_66_31, rn_66_32, rn_66_33, rn_66_36, rn_66_38, rn_66_41, rn_66_43, rn_66_44, rn_66_45, rn_66_48, rn_66_49, rn_66_52, rn_66_53, rn_66_54, rn_66_55, rn_66_58, rn_66_59, rn_66_62, rn_66_63, rn_66_64, rn_66_65, rn_66_66, rn_66_69, rn_66_70, rn_66_71, rn_66_74, rn_66_75, rn_66_78, rn_66_79, rn_66_80, s_aload_n_0, s_gf, am_gfq_e, am_nth_0, am_nth_s, fl_6_21, s_iload_n_1, s_ivv, am_ivq_e, am_cvq_e, am_po_s, am_po_n, am_sl_n, am_sl_i, am_sl_r, am_sl_l, ml_6_114, cq_44, s_ifnn_n, s_ifnn_s, jm_8_5, s_iconst_m1, s_irt, am_irq_1, am_irq_2, s_iload_n_2, s_bipush_m9, s_if2_eq, jm_16_16, s_sipush_201, s_ivs, am_isv_1, am_isv_3, am_isv_5, s_acp, am_cpq_e, ml_6_57, cq_82, s_if1_ne, jm_26_6, s_bipush_m2, fl_6_82, s_bipush_8, s_if2_lt, jm_38_6, s_bipush_m4, fl_6_42, s_iast, am_iwq_e, fl_6_46, s_dup_i, s_dup_r, s_iconst_1, s_iadd, s_pf, am_pfq_e, am_fit_0, am_fit_1, am_fit_2, List.set_cons_zero, List.set_cons_succ, Nat.reduceLT, Bool.false_eq_true, Nat.lt_add_one, Nat.zero_lt_succ, fk_6_7, ff_6_7, in_66, s_isub, Int.le_refl, am_c3, am_c4, am_c6, am_c7, am_c8, am_c9, am_c27, am_c60, am_c240, am_c418, am_c3500, am_up_s, am_up_n, am_uu, ne_eq, Nat.reduceAdd, Int.reduceAdd, Int.reduceNeg, Int.reduceLE, Int.reduceToNat, true_and, and_true, List.length_cons, List.length_nil, Nat.reduceLeDiff, Nat.zero_add, Nat.add_zero, Nat.le_refl, true_or, or_true, reduceCtorEq, false_implies, implies_true, true_implies, not_true_eq_false, not_false_eq_true, eq_self, Int.zero_add, Int.reduceEq, Nat.reduceEqDiff]
    exact k h fns c FrC.rf
end
