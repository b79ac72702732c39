/-! CLASS 11: drop -/
def kep (rd : List (Int × Int)) (t : Int) (j : Nat) : List (Int × Int) := (rd.take j).filter (fun x => x.1 ≠ t)
theorem kep_s {rd : List (Int × Int)} {t : Int} {j : Nat} (hj : j < rd.length) : kep rd t (j + 1) = kep rd t j ++ (if (rd.getD j rd0).1 = t then [] else [rd.getD j rd0]) := by
  unfold kep
  have e : rd.take (j + 1) = rd.take j ++ [rd.getD j rd0] := by
    rw [List.take_add_one, gd_get rd0 hj]
    rfl
  rw [e, List.filter_append]
  congr 1
  generalize rd.getD j rd0 = y
  by_cases q : y.1 = t
  · rw [if_pos q]
    simp [q]
  · rw [if_neg q]
    simp [q]
theorem kep_le {rd : List (Int × Int)} {t : Int} {j : Nat} : (kep rd t j).length ≤ j := by
  unfold kep
  refine Nat.le_trans (List.length_filter_le _ _) ?_
  rw [List.length_take]
  omega
section
variable {d n : Nat} {h : am_H} {K : am_K} {P : PS} {fns : List FnT}
theorem lp_forget {t : Int} (l8 : P.rd.length ≤ 8) (hob : h 1 = cO P.rd.length P.tr P.ft) (k : ∀ a b : List Int, a.length = 8 → b.length = 8 → (∀ i, i < (kep P.rd t P.rd.length).length → a.getD i 0 = ((kep P.rd t P.rd.length).getD i rd0).1 ∧ b.getD i 0 = ((kep P.rd t P.rd.length).getD i rd0).2) → K none n (am_up (am_up (am_up h 56 (aC a)) 57 (aC b)) 1 (cO (kep P.rd t P.rd.length).length P.tr P.ft))) :
    ∀ (kk j : Nat) (a b : List Int), j + kk = P.rd.length → a.length = 8 → b.length = 8 → (∀ i, i < (kep P.rd t j).length → a.getD i 0 = ((kep P.rd t j).getD i rd0).1 ∧ b.getD i 0 = ((kep P.rd t j).getD i rd0).2) → (∀ i, j ≤ i → i < P.rd.length → a.getD i 0 = (P.rd.getD i rd0).1 ∧ b.getD i 0 = (P.rd.getD i rd0).2) → am_W 87 n (am_M d) K 4 [some (rV 1), some (iV t), some (iV (kep P.rd t j).length), some (iV j)] [] n (am_up (am_up h 56 (aC a)) 57 (aC b)) := by
  intro kk
  induction kk with
  | zero =>
    intro j a b hj ha hb hh h2
    obtain rfl : j = P.rd.length := by omega
    refine am_runH 400 ?_; simp (disch := omega) only [ow_87, rt_87, rn_87_0, rn_87_1, rn_87_2, rn_87_3, rn_87_4, rf_87_4, rn_87_5, rn_87_6, rn_87_9, rn_87_12, rn_87_13, rn_87_16, rn_87_17, rn_87_18, rn_87_19, rn_87_22, rn_87_23, rn_87_26, rn_87_27, rn_87_28, rn_87_31, rn_87_32, rn_87_33, rn_87_34, rn_87_35, rn_87_38, rn_87_39, rn_87_40, rn_87_43, rn_87_44, rn_87_45, rn_87_46, rn_87_49, rn_87_52, rn_87_55, rn_87_56, rn_87_57, rn_87_60, s_iconst_0, s_istore_n_2, am_kil_n, am_kil_i, am_kil_r, am_kil_l, s_istore_n_3, s_iload_n_3, s_aload_n_0, s_gf, am_gfq_e, am_nth_0, am_nth_s, fl_6_82, s_if2_ge, jm_9_46, fl_6_42, s_iald, am_iaq_e, s_iload_n_1, s_if2_eq, jm_19_30, s_iload_n_2, s_iast, am_iwq_e, fl_6_46, s_iinc_2, s_iinc_3, s_goto, jm_52_m48, s_pf, am_pfq_e, am_fit_0, am_fit_1, am_fit_2, List.set_cons_zero, List.set_cons_succ, Nat.reduceLT, Bool.false_eq_true, Nat.lt_add_one, Nat.zero_lt_succ, fk_6_7, ff_6_7, in_87, s_vrt, am_orq_e, Int.le_refl, am_c3, am_c4, am_c6, am_c7, am_c8, am_c9, am_c27, am_c60, am_c240, am_c418, am_c3500, am_up_s, am_up_n, am_uu, ne_eq, Nat.reduceAdd, Int.reduceAdd, Int.reduceNeg, Int.reduceLE, Int.reduceToNat, true_and, and_true, List.length_cons, List.length_nil, Nat.reduceLeDiff, Nat.zero_add, Nat.add_zero, Nat.le_refl, true_or, or_true, reduceCtorEq, false_implies, implies_true, true_implies, not_true_eq_false, not_false_eq_true, eq_self, Int.zero_add, Int.reduceEq, Nat.reduceEqDiff, hob]
    exact k a b ha hb hh
  | succ kk ih =>
    intro j a b hj ha hb hh h2
    have hk := kep_le (rd := P.rd) (t := t) (j := j)
    have hs := kep_s (rd := P.rd) (t := t) (j := j) (by omega)
    have hj2 := h2 j (by omega) (by omega)
    generalize hL : kep P.rd t j = L at *
    have nx := ih (j + 1)
    rw [hs] at nx
    refine am_runH 400 ?_; simp (disch := omega) only [ow_87, rt_87, rn_87_0, rn_87_1, rn_87_2, rn_87_3, rn_87_4, rf_87_4, rn_87_5, rn_87_6, rn_87_9, rn_87_12, rn_87_13, rn_87_16, rn_87_17, rn_87_18, rn_87_19, rn_87_22, rn_87_23, rn_87_26, rn_87_27, rn_87_28, rn_87_31, rn_87_32, rn_87_33, rn_87_34, rn_87_35, rn_87_38, rn_87_39, rn_87_40, rn_87_43, rn_87_44, rn_87_45, rn_87_46, rn_87_49, rn_87_52, rn_87_55, rn_87_56, rn_87_57, rn_87_60, s_iconst_0, s_istore_n_2, am_kil_n, am_kil_i, am_kil_r, am_kil_l, s_istore_n_3, s_iload_n_3, s_aload_n_0, s_gf, am_gfq_e, am_nth_0, am_nth_s, fl_6_82, s_if2_ge, jm_9_46, fl_6_42, s_iald, am_iaq_e, s_iload_n_1, s_if2_eq, jm_19_30, s_iload_n_2, s_iast, am_iwq_e, fl_6_46, s_iinc_2, s_iinc_3, s_goto, jm_52_m48, s_pf, am_pfq_e, am_fit_0, am_fit_1, am_fit_2, List.set_cons_zero, List.set_cons_succ, Nat.reduceLT, Bool.false_eq_true, Nat.lt_add_one, Nat.zero_lt_succ, fk_6_7, ff_6_7, in_87, s_vrt, am_orq_e, Int.le_refl, am_c3, am_c4, am_c6, am_c7, am_c8, am_c9, am_c27, am_c60, am_c240, am_c418, am_c3500, am_up_s, am_up_n, am_uu, ne_eq, Nat.reduceAdd, Int.reduceAdd, Int.reduceNeg, Int.reduceLE, Int.reduceToNat, true_and, and_true, List.length_cons, List.length_nil, Nat.reduceLeDiff, Nat.zero_add, Nat.add_zero, Nat.le_refl, true_or, or_true, reduceCtorEq, false_implies, implies_true, true_implies, not_true_eq_false, not_false_eq_true, eq_self, Int.zero_add, Int.reduceEq, Nat.reduceEqDiff, hob, ha, hb, Int.toNat_natCast, am_i1, hj2.1, hj2.2, List.length_set]
    refine ⟨fun q => by omega, fun _ => ⟨by omega, fun q => ?_, fun q => ⟨by omega, by omega, by omega, by omega, ?_⟩⟩⟩
    · rw [if_pos q, List.append_nil] at nx
      exact nx a b (by omega) ha hb hh (fun i h1 h3 => h2 i (by omega) h3)
    · rw [if_neg q] at nx
      have n1 := nx (a.set L.length (P.rd.getD j rd0).1) (b.set L.length (P.rd.getD j rd0).2) (by omega) (by simpa using ha) (by simpa using hb) (fun i hi => ?_) (fun i h1 h3 => ?_)
      · rw [am_up_cm (r := 57) (q := 56) (by omega), am_uu, am_uu]
        rw [List.length_append, List.length_singleton] at n1
        exact n1
      · rw [List.length_append, List.length_singleton] at hi
        by_cases z : i = L.length
        · rw [z, gd_ss (by omega), gd_ss (by omega), gd_ar rfl]
          exact ⟨rfl, rfl⟩
        · rw [gd_sn (by omega), gd_sn (by omega), gd_al (by omega)]
          exact hh i (by omega)
      · rw [gd_sn (by omega), gd_sn (by omega)]
        exact h2 i (by omega) h3
theorem sp_forget {t : Int} (l8 : P.rd.length ≤ 8) (c : CR h P fns) (k : ∀ h', CR h' (P.un P.fns P.tms P.gs (P.rd.filter (fun x => x.1 ≠ t))) fns → FrC h h' → (∀ q, q ≠ 1 → q ≠ 56 → q ≠ 57 → h' q = h q) → K none n h') : am_M (d + 1) 87 [rV 1, iV t] n h K := by
  obtain ⟨m1, a1, a2, a3⟩ := c.2.2.2.2.2.2.2.2.2.1
  obtain ⟨m2, b1, b2, b3⟩ := c.2.2.2.2.2.2.2.2.2.2
  have ek : kep P.rd t P.rd.length = P.rd.filter (fun x => x.1 ≠ t) := by unfold kep; rw [List.take_length]
  refine en_87 (am_run 400 ?_); simp (disch := omega) only [ow_87, rt_87, rn_87_0, rn_87_1, rn_87_2, rn_87_3, rn_87_4, rf_87_4, rn_87_5, rn_87_6, rn_87_9, rn_87_12, rn_87_13, rn_87_16, rn_87_17, rn_87_18, rn_87_19, rn_87_22, rn_87_23, rn_87_26, rn_87_27, rn_87_28, rn_87_31, rn_87_32, rn_87_33, rn_87_34, rn_87_35, rn_87_38, rn_87_39, rn_87_40, rn_87_43, rn_87_44, rn_87_45, rn_87_46, rn_87_49, rn_87_52, rn_87_55, rn_87_56, rn_87_57, rn_87_60, s_iconst_0, s_istore_n_2, am_kil_n, am_kil_i, am_kil_r, am_kil_l, s_istore_n_3, s_iload_n_3, s_aload_n_0, s_gf, am_gfq_e, am_nth_0, am_nth_s, fl_6_82, s_if2_ge, jm_9_46, fl_6_42, s_iald, am_iaq_e, s_iload_n_1, s_if2_eq, jm_19_30, s_iload_n_2, s_iast, am_iwq_e, fl_6_46, s_iinc_2, s_iinc_3, s_goto, jm_52_m48, s_pf, am_pfq_e, am_fit_0, am_fit_1, am_fit_2, List.set_cons_zero, List.set_cons_succ, Nat.reduceLT, Bool.false_eq_true, Nat.lt_add_one, Nat.zero_lt_succ, fk_6_7, ff_6_7, in_87, s_vrt, am_orq_e, Int.le_refl, am_c3, am_c4, am_c6, am_c7, am_c8, am_c9, am_c27, am_c60, am_c240, am_c418, am_c3500, am_up_s, am_up_n, am_uu, ne_eq, Nat.reduceAdd, Int.reduceAdd, Int.reduceNeg, Int.reduceLE, Int.reduceToNat, true_and, and_true, List.length_cons, List.length_nil, Nat.reduceLeDiff, Nat.zero_add, Nat.add_zero, Nat.le_refl, true_or, or_true, reduceCtorEq, false_implies, implies_true, true_implies, not_true_eq_false, not_false_eq_true, eq_self, Int.zero_add, Int.reduceEq, Nat.reduceEqDiff]
  have := lp_forget (d := d) (n := n) (h := h) (K := K) (P := P) (t := t) l8 c.ob (fun a b ha hb hh => k _ (by
    rw [← ek]
    exact c.rdx (fun q h1 h2 h3 => by rw [am_up_n h1, am_up_n h3, am_up_n h2]) am_up_s ⟨a, by rw [am_up_n (by omega), am_up_n (by omega), am_up_s], ha, fun i hi => (hh i hi).1⟩ ⟨b, by rw [am_up_n (by omega), am_up_s], hb, fun i hi => (hh i hi).2⟩) (((FrC.rf.up (by omega) (by omega)).up (by omega) (by omega)).up (by omega) (by omega)) (fun q h1 h2 h3 => by rw [am_up_n h1, am_up_n h3, am_up_n h2])) P.rd.length 0 m1 m2 (by omega) a2 b2 (fun i hi => absurd hi (by unfold kep; simp)) (fun i _ h3 => ⟨a3 i h3, b3 i h3⟩)
  rw [am_up_self a1, am_up_self b1] at this
  exact this
theorem WF.drop {tms : List TmT} (a : WF fns tms) : WF fns tms.dropLast := by
  refine ⟨a.1, fun t x e => ?_⟩
  rw [List.getElem?_dropLast] at e
  split at e
  · exact a.2 t x e
  · exact absurd e (by simp)
theorem cl_drop (pv : PV P) (c : CR h P fns) (k : ∀ h' fns', CR h' (op_drop P).2 fns' → FrC h h' → K (some (iV (op_drop P).1)) n h') : am_M (d + 3) 58 [rV 1] n h K := by
  unfold op_drop at k
  obtain ⟨l1, l2, F, T, hS, hF, hT⟩ := id c.wo
  refine en_58 (am_run 400 ?_); simp (disch := omega) only [ow_58, rt_58, rn_58_0, rn_58_1, rn_58_4, rn_58_7, rn_58_10, rn_58_12, rn_58_13, rn_58_14, rn_58_15, rn_58_18, rn_58_21, rn_58_24, rn_58_25, rn_58_28, rn_58_31, s_aload_n_0, s_gf, am_gfq_e, am_nth_0, am_nth_s, fl_6_21, s_ivv, am_ivq_e, am_cvq_e, am_po_s, am_po_n, am_sl_n, am_sl_i, am_sl_r, am_sl_l, ml_6_122, cq_46, s_if1_ne, jm_7_6, s_bipush_m3, s_irt, am_irq_1, am_irq_2, fl_6_126, ml_6_129, cq_87, Int.le_refl, am_c3, am_c4, am_c6, am_c7, am_c8, am_c9, am_c27, am_c60, am_c240, am_c418, am_c3500, am_up_s, am_up_n, am_uu, ne_eq, Nat.reduceAdd, Int.reduceAdd, Int.reduceNeg, Int.reduceLE, Int.reduceToNat, true_and, and_true, List.length_cons, List.length_nil, Nat.reduceLeDiff, Nat.zero_add, Nat.add_zero, Nat.le_refl, true_or, or_true, reduceCtorEq, false_implies, implies_true, true_implies, not_true_eq_false, not_false_eq_true, eq_self, Int.zero_add, Int.reduceEq, Nat.reduceEqDiff, c.ob, hS.1]
  refine sp_takeLast c.wo (fun q => ?_) (fun q h1 w1 f1 => ?_)
  · rw [if_pos q] at k
    refine am_run 400 ?_; simp (disch := omega) only [ow_58, rt_58, rn_58_0, rn_58_1, rn_58_4, rn_58_7, rn_58_10, rn_58_12, rn_58_13, rn_58_14, rn_58_15, rn_58_18, rn_58_21, rn_58_24, rn_58_25, rn_58_28, rn_58_31, s_aload_n_0, s_gf, am_gfq_e, am_nth_0, am_nth_s, fl_6_21, s_ivv, am_ivq_e, am_cvq_e, am_po_s, am_po_n, am_sl_n, am_sl_i, am_sl_r, am_sl_l, ml_6_122, cq_46, s_if1_ne, jm_7_6, s_bipush_m3, s_irt, am_irq_1, am_irq_2, fl_6_126, ml_6_129, cq_87, Int.le_refl, am_c3, am_c4, am_c6, am_c7, am_c8, am_c9, am_c27, am_c60, am_c240, am_c418, am_c3500, am_up_s, am_up_n, am_uu, ne_eq, Nat.reduceAdd, Int.reduceAdd, Int.reduceNeg, Int.reduceLE, Int.reduceToNat, true_and, and_true, List.length_cons, List.length_nil, Nat.reduceLeDiff, Nat.zero_add, Nat.add_zero, Nat.le_refl, true_or, or_true, reduceCtorEq, false_implies, implies_true, true_implies, not_true_eq_false, not_false_eq_true, eq_self, Int.zero_add, Int.reduceEq, Nat.reduceEqDiff]
    exact k h fns c FrC.rf
  · rw [if_neg (by omega)] at k
    obtain ⟨l1, l2, F1, T1, hS1, -, -⟩ := id w1
    have e1 : h1 1 = cO P.rd.length P.tr P.ft := (f1 1 (by omega)).trans c.ob
    refine am_run 400 ?_; simp (disch := omega) only [ow_58, rt_58, rn_58_0, rn_58_1, rn_58_4, rn_58_7, rn_58_10, rn_58_12, rn_58_13, rn_58_14, rn_58_15, rn_58_18, rn_58_21, rn_58_24, rn_58_25, rn_58_28, rn_58_31, s_aload_n_0, s_gf, am_gfq_e, am_nth_0, am_nth_s, fl_6_21, s_ivv, am_ivq_e, am_cvq_e, am_po_s, am_po_n, am_sl_n, am_sl_i, am_sl_r, am_sl_l, ml_6_122, cq_46, s_if1_ne, jm_7_6, s_bipush_m3, s_irt, am_irq_1, am_irq_2, fl_6_126, ml_6_129, cq_87, Int.le_refl, am_c3, am_c4, am_c6, am_c7, am_c8, am_c9, am_c27, am_c60, am_c240, am_c418, am_c3500, am_up_s, am_up_n, am_uu, ne_eq, Nat.reduceAdd, Int.reduceAdd, Int.reduceNeg, Int.reduceLE, Int.reduceToNat, true_and, and_true, List.length_cons, List.length_nil, Nat.reduceLeDiff, Nat.zero_add, Nat.add_zero, Nat.le_refl, true_or, or_true, reduceCtorEq, false_implies, implies_true, true_implies, not_true_eq_false, not_false_eq_true, eq_self, Int.zero_add, Int.reduceEq, Nat.reduceEqDiff, e1, hS1.1]
    have c1 := c.wor f1 w1 c.wf.drop
    rw [c.nm] at c1
    have el : P.tms.dropLast.length = P.tms.length - 1 := List.length_dropLast
    refine sp_forget (P := P.un P.fns P.tms.dropLast P.gs P.rd) pv.lr c1 (fun h2 c2 f2 g2 => ?_)
    have e2 : h2 11 = oC 5 [rV 12, iV fns.length, rV 13, iV P.tms.dropLast.length, rV 14] := (g2 11 (by omega) (by omega) (by omega)).trans hS1.1
    rw [show ((P.tms.dropLast.length : Nat) : Int) = P.tms.length - 1 by omega] at c2 e2
    have e3 := c2.ob
    refine am_run 400 ?_; simp (disch := omega) only [ow_58, rt_58, rn_58_0, rn_58_1, rn_58_4, rn_58_7, rn_58_10, rn_58_12, rn_58_13, rn_58_14, rn_58_15, rn_58_18, rn_58_21, rn_58_24, rn_58_25, rn_58_28, rn_58_31, s_aload_n_0, s_gf, am_gfq_e, am_nth_0, am_nth_s, fl_6_21, s_ivv, am_ivq_e, am_cvq_e, am_po_s, am_po_n, am_sl_n, am_sl_i, am_sl_r, am_sl_l, ml_6_122, cq_46, s_if1_ne, jm_7_6, s_bipush_m3, s_irt, am_irq_1, am_irq_2, fl_6_126, ml_6_129, cq_87, Int.le_refl, am_c3, am_c4, am_c6, am_c7, am_c8, am_c9, am_c27, am_c60, am_c240, am_c418, am_c3500, am_up_s, am_up_n, am_uu, ne_eq, Nat.reduceAdd, Int.reduceAdd, Int.reduceNeg, Int.reduceLE, Int.reduceToNat, true_and, and_true, List.length_cons, List.length_nil, Nat.reduceLeDiff, Nat.zero_add, Nat.add_zero, Nat.le_refl, true_or, or_true, reduceCtorEq, false_implies, implies_true, true_implies, not_true_eq_false, not_false_eq_true, eq_self, Int.zero_add, Int.reduceEq, Nat.reduceEqDiff, e3, e2]
    exact k h2 fns c2 (f1.C.tr f2)
end
