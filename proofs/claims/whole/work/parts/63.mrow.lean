/-! MODEL 4: all terms; prices; the row -/
section
variable {d n : Nat} {h : am_H} {K : am_K} {fns : List FnT} {tms : List TmT} {gs : List Int} {ft tr fc tc pt rf st an vs lp wa ws wt wv wl rc : Int}
theorem lp_findTerms {la : Nat} {m : Int} (ho : h 58 = mO ft tr fc tc pt rf st an vs lp wa ws wt wv wl rc) (hW : MW h fns tms gs) (hwf : WF fns tms) (hla : la < tms.length) (hp : ∀ t, t < 6 → mpk m t ≠ 3)
    (k : ∀ is lk : List Int, is.length = 6 → lk.length = 6 → (∀ j, j ≤ la → is.getD j 0 = mc (mev fns tms j m).1 ∧ lk.getD j 0 = (mev fns tms j m).2) → K none n (am_up (am_up h 77 (aC is)) 78 (aC lk))) :
    ∀ (kk t : Nat) (is lk : List Int), t + kk = la + 1 → is.length = 6 → lk.length = 6 → (∀ j, j < t → is.getD j 0 = mc (mev fns tms j m).1 ∧ lk.getD j 0 = (mev fns tms j m).2) → am_W 127 n (am_M (d + 3)) K 2 [some (rV 58), some (iV la), some (iV m), some (iV t)] [] n (am_up (am_up h 77 (aC is)) 78 (aC lk)) := by
  have l6 := hW.2.2.2.2.2
  intro kk
  induction kk with
  | zero =>
    intro t is lk hi h1 h2 h3
    refine am_runH 400 ?_; simp (disch := omega) only [ow_127, rt_127, rn_127_0, rn_127_1, rn_127_2, rf_127_2, rn_127_3, rn_127_4, rn_127_7, rn_127_8, rn_127_9, rn_127_10, rn_127_13, rn_127_16, rn_127_19, s_iconst_0, s_istore_n_3, am_kil_n, am_kil_i, am_kil_r, am_kil_l, s_iload_n_3, s_iload_n_1, s_if2_gt, jm_4_15, s_aload_n_0, s_iload_n_2, s_ivv, am_ivq_e, am_cvq_e, am_po_s, am_po_n, am_sl_n, am_sl_i, am_sl_r, am_sl_l, ml_7_165, cq_125, s_iinc_3, s_goto, jm_16_m14, s_vrt, am_orq_e, Int.le_refl, am_c3, am_c4, am_c6, am_c7, am_c8, am_c9, am_c27, am_c60, am_c240, am_c418, am_c3500, am_up_s, am_up_n, am_uu, ne_eq, Nat.reduceAdd, Int.reduceAdd, Int.reduceNeg, Int.reduceLE, Int.reduceToNat, true_and, and_true, List.length_cons, List.length_nil, Nat.reduceLeDiff, Nat.zero_add, Nat.add_zero, Nat.le_refl, true_or, or_true, reduceCtorEq, false_implies, implies_true, true_implies, not_true_eq_false, not_false_eq_true, eq_self, Int.zero_add, Int.reduceEq, Nat.reduceEqDiff]
    exact ⟨fun _ => k is lk h1 h2 (fun j hj => h3 j (by omega)), fun q => absurd (by omega) q⟩
  | succ kk ih =>
    intro t is lk hi h1 h2 h3
    refine am_runH 400 ?_; simp (disch := omega) only [ow_127, rt_127, rn_127_0, rn_127_1, rn_127_2, rf_127_2, rn_127_3, rn_127_4, rn_127_7, rn_127_8, rn_127_9, rn_127_10, rn_127_13, rn_127_16, rn_127_19, s_iconst_0, s_istore_n_3, am_kil_n, am_kil_i, am_kil_r, am_kil_l, s_iload_n_3, s_iload_n_1, s_if2_gt, jm_4_15, s_aload_n_0, s_iload_n_2, s_ivv, am_ivq_e, am_cvq_e, am_po_s, am_po_n, am_sl_n, am_sl_i, am_sl_r, am_sl_l, ml_7_165, cq_125, s_iinc_3, s_goto, jm_16_m14, s_vrt, am_orq_e, Int.le_refl, am_c3, am_c4, am_c6, am_c7, am_c8, am_c9, am_c27, am_c60, am_c240, am_c418, am_c3500, am_up_s, am_up_n, am_uu, ne_eq, Nat.reduceAdd, Int.reduceAdd, Int.reduceNeg, Int.reduceLE, Int.reduceToNat, true_and, and_true, List.length_cons, List.length_nil, Nat.reduceLeDiff, Nat.zero_add, Nat.add_zero, Nat.le_refl, true_or, or_true, reduceCtorEq, false_implies, implies_true, true_implies, not_true_eq_false, not_false_eq_true, eq_self, Int.zero_add, Int.reduceEq, Nat.reduceEqDiff, ho]
    refine ⟨fun q => by omega, fun _ => ?_⟩
    refine sp_findTerm (h := am_up (am_up h 77 (aC is)) 78 (aC lk)) (is := is) (lk := lk) (by rw [am_up_n (by omega), am_up_n (by omega)]; exact ho) (hW.frame (fun q _ _ => by rw [am_up_n (by omega), am_up_n (by omega)])) hwf (by omega) (by rw [am_up_n (by omega), am_up_s]) am_up_s h1 h2 (hp t (by omega)) h3 ?_
    have nx := ih (t + 1) (is.set t (mc (mev fns tms t m).1)) (lk.set t (mev fns tms t m).2) (by omega) (by simpa using h1) (by simpa using h2) (fun j hj => by
      by_cases q : j = t
      · subst q
        exact ⟨gd_ss (by omega), gd_ss (by omega)⟩
      · rw [gd_sn (by omega), gd_sn (by omega)]
        exact h3 j (by omega))
    refine am_run 400 ?_; simp (disch := omega) only [ow_127, rt_127, rn_127_0, rn_127_1, rn_127_2, rf_127_2, rn_127_3, rn_127_4, rn_127_7, rn_127_8, rn_127_9, rn_127_10, rn_127_13, rn_127_16, rn_127_19, s_iconst_0, s_istore_n_3, am_kil_n, am_kil_i, am_kil_r, am_kil_l, s_iload_n_3, s_iload_n_1, s_if2_gt, jm_4_15, s_aload_n_0, s_iload_n_2, s_ivv, am_ivq_e, am_cvq_e, am_po_s, am_po_n, am_sl_n, am_sl_i, am_sl_r, am_sl_l, ml_7_165, cq_125, s_iinc_3, s_goto, jm_16_m14, s_vrt, am_orq_e, Int.le_refl, am_c3, am_c4, am_c6, am_c7, am_c8, am_c9, am_c27, am_c60, am_c240, am_c418, am_c3500, am_up_s, am_up_n, am_uu, ne_eq, Nat.reduceAdd, Int.reduceAdd, Int.reduceNeg, Int.reduceLE, Int.reduceToNat, true_and, and_true, List.length_cons, List.length_nil, Nat.reduceLeDiff, Nat.zero_add, Nat.add_zero, Nat.le_refl, true_or, or_true, reduceCtorEq, false_implies, implies_true, true_implies, not_true_eq_false, not_false_eq_true, eq_self, Int.zero_add, Int.reduceEq, Nat.reduceEqDiff, am_i1]
    rw [am_up_cm (r := 78) (q := 77) (by omega), am_uu, am_uu]
    exact nx
theorem sp_findTerms {la : Nat} {m : Int} {is lk : List Int} (ho : h 58 = mO ft tr fc tc pt rf st an vs lp wa ws wt wv wl rc) (hW : MW h fns tms gs) (hwf : WF fns tms) (hla : la < tms.length) (hp : ∀ t, t < 6 → mpk m t ≠ 3) (h77 : h 77 = aC is) (h78 : h 78 = aC lk) (li : is.length = 6) (ll : lk.length = 6)
    (k : ∀ is lk : List Int, is.length = 6 → lk.length = 6 → (∀ j, j ≤ la → is.getD j 0 = mc (mev fns tms j m).1 ∧ lk.getD j 0 = (mev fns tms j m).2) → K none n (am_up (am_up h 77 (aC is)) 78 (aC lk))) : am_M (d + 4) 127 [rV 58, iV la, iV m] n h K := by
  refine en_127 (am_run 400 ?_); simp (disch := omega) only [ow_127, rt_127, rn_127_0, rn_127_1, rn_127_2, rf_127_2, rn_127_3, rn_127_4, rn_127_7, rn_127_8, rn_127_9, rn_127_10, rn_127_13, rn_127_16, rn_127_19, s_iconst_0, s_istore_n_3, am_kil_n, am_kil_i, am_kil_r, am_kil_l, s_iload_n_3, s_iload_n_1, s_if2_gt, jm_4_15, s_aload_n_0, s_iload_n_2, s_ivv, am_ivq_e, am_cvq_e, am_po_s, am_po_n, am_sl_n, am_sl_i, am_sl_r, am_sl_l, ml_7_165, cq_125, s_iinc_3, s_goto, jm_16_m14, s_vrt, am_orq_e, Int.le_refl, am_c3, am_c4, am_c6, am_c7, am_c8, am_c9, am_c27, am_c60, am_c240, am_c418, am_c3500, am_up_s, am_up_n, am_uu, ne_eq, Nat.reduceAdd, Int.reduceAdd, Int.reduceNeg, Int.reduceLE, Int.reduceToNat, true_and, and_true, List.length_cons, List.length_nil, Nat.reduceLeDiff, Nat.zero_add, Nat.add_zero, Nat.le_refl, true_or, or_true, reduceCtorEq, false_implies, implies_true, true_implies, not_true_eq_false, not_false_eq_true, eq_self, Int.zero_add, Int.reduceEq, Nat.reduceEqDiff]
  have := lp_findTerms (d := d) (n := n) (K := K) ho hW hwf hla hp k (la + 1) 0 is lk (by omega) li ll (fun j hj => by omega)
  rw [am_up_self (r := 77) h77, am_up_self h78] at this
  exact this
theorem lp_priceOf {S : Int} (ho : h 58 = mO ft tr fc tms.length pt rf st an vs lp wa ws wt wv wl rc) (hM : MF h fns) (hT : MT h tms) (l3 : fns.length ≤ 3) (l6 : tms.length ≤ 6) (hwf : WF fns tms) (k : K (some (iV (prc fns tms S))) n h) :
    ∀ (kk t : Nat), t + kk = tms.length → am_W 131 n (am_M (d + 1)) K 4 [some (rV 58), some (iV S), some (iV (sm t (prcT fns tms S))), some (iV t)] [] n h := by
  obtain ⟨b1, b2, b3, b4, n1, n2, n3, n4, y1, y2, y3, y4, hq⟩ := hT
  intro kk
  induction kk with
  | zero =>
    intro t ht
    obtain rfl : t = tms.length := by omega
    refine am_runH 400 ?_; simp (disch := omega) only [ow_131, rt_131, rn_131_0, rn_131_1, rn_131_2, rn_131_3, rn_131_4, rf_131_4, rn_131_5, rn_131_6, rn_131_9, rn_131_12, rn_131_13, rn_131_14, rn_131_15, rn_131_16, rn_131_17, rn_131_18, rn_131_19, rn_131_22, rn_131_23, rn_131_26, rn_131_27, rn_131_28, rn_131_29, rn_131_32, rn_131_33, rn_131_34, rn_131_37, rn_131_38, rn_131_39, rn_131_42, rn_131_45, rn_131_46, rn_131_47, rn_131_48, rn_131_51, rn_131_54, rn_131_55, s_iconst_0, s_istore_n_2, am_kil_n, am_kil_i, am_kil_r, am_kil_l, s_istore_n_3, s_iload_n_3, s_aload_n_0, s_gf, am_gfq_e, am_nth_0, am_nth_s, fl_7_98, s_if2_ge, jm_9_45, s_iload_n_2, s_iload_n_1, s_ishr, s_iconst_1, s_iand, s_if2_ne, jm_19_26, fl_7_34, s_iald, am_iaq_e, s_iconst_2, jm_29_16, fl_7_37, s_ivv, am_ivq_e, am_cvq_e, am_po_s, am_po_n, am_sl_n, am_sl_i, am_sl_r, am_sl_l, ml_7_145, cq_114, s_goto, jm_42_4, s_iadd, s_iinc_3, jm_51_m47, s_irt, am_irq_1, am_irq_2, Int.le_refl, am_c3, am_c4, am_c6, am_c7, am_c8, am_c9, am_c27, am_c60, am_c240, am_c418, am_c3500, am_up_s, am_up_n, am_uu, ne_eq, Nat.reduceAdd, Int.reduceAdd, Int.reduceNeg, Int.reduceLE, Int.reduceToNat, true_and, and_true, List.length_cons, List.length_nil, Nat.reduceLeDiff, Nat.zero_add, Nat.add_zero, Nat.le_refl, true_or, or_true, reduceCtorEq, false_implies, implies_true, true_implies, not_true_eq_false, not_false_eq_true, eq_self, Int.zero_add, Int.reduceEq, Nat.reduceEqDiff, ho]
    exact k
  | succ kk ih =>
    intro t ht
    have nx := ih (t + 1) (by omega)
    obtain ⟨q1, q2, q3, q4⟩ := hq t (by omega)
    have hx := hwf.2 t _ (gd_get tm0 (i := t) (by omega))
    have hb := sm_bd (prcT_bd hwf S) t
    have hb2 := prcT_bd hwf S t
    have h1 := am_and1 (am_shr S t)
    have es : sm (t + 1) (prcT fns tms S) = sm t (prcT fns tms S) + prcT fns tms S t := rfl
    rw [es] at nx
    have ep : prcT fns tms S t = if am_and (am_shr S t) 1 ≠ 0 ∧ (tms.getD t tm0).1 = 2 then fcost (fns.getD (tms.getD t tm0).2.1.toNat fn0).1 (fns.getD (tms.getD t tm0).2.1.toNat fn0).2.1 else 0 := rfl
    generalize tms.getD t tm0 = X at *
    generalize sm t (prcT fns tms S) = sv at *
    refine am_runH 400 ?_; simp (disch := omega) only [ow_131, rt_131, rn_131_0, rn_131_1, rn_131_2, rn_131_3, rn_131_4, rf_131_4, rn_131_5, rn_131_6, rn_131_9, rn_131_12, rn_131_13, rn_131_14, rn_131_15, rn_131_16, rn_131_17, rn_131_18, rn_131_19, rn_131_22, rn_131_23, rn_131_26, rn_131_27, rn_131_28, rn_131_29, rn_131_32, rn_131_33, rn_131_34, rn_131_37, rn_131_38, rn_131_39, rn_131_42, rn_131_45, rn_131_46, rn_131_47, rn_131_48, rn_131_51, rn_131_54, rn_131_55, s_iconst_0, s_istore_n_2, am_kil_n, am_kil_i, am_kil_r, am_kil_l, s_istore_n_3, s_iload_n_3, s_aload_n_0, s_gf, am_gfq_e, am_nth_0, am_nth_s, fl_7_98, s_if2_ge, jm_9_45, s_iload_n_2, s_iload_n_1, s_ishr, s_iconst_1, s_iand, s_if2_ne, jm_19_26, fl_7_34, s_iald, am_iaq_e, s_iconst_2, jm_29_16, fl_7_37, s_ivv, am_ivq_e, am_cvq_e, am_po_s, am_po_n, am_sl_n, am_sl_i, am_sl_r, am_sl_l, ml_7_145, cq_114, s_goto, jm_42_4, s_iadd, s_iinc_3, jm_51_m47, s_irt, am_irq_1, am_irq_2, Int.le_refl, am_c3, am_c4, am_c6, am_c7, am_c8, am_c9, am_c27, am_c60, am_c240, am_c418, am_c3500, am_up_s, am_up_n, am_uu, ne_eq, Nat.reduceAdd, Int.reduceAdd, Int.reduceNeg, Int.reduceLE, Int.reduceToNat, true_and, and_true, List.length_cons, List.length_nil, Nat.reduceLeDiff, Nat.zero_add, Nat.add_zero, Nat.le_refl, true_or, or_true, reduceCtorEq, false_implies, implies_true, true_implies, not_true_eq_false, not_false_eq_true, eq_self, Int.zero_add, Int.reduceEq, Nat.reduceEqDiff, ho, n1, n2, y1, y2, q1, q2, Int.toNat_natCast, am_i1]
    generalize am_and (am_shr S t) 1 = bb at *
    refine ⟨fun q => by omega, fun _ => ⟨fun q => ?_, fun q => ⟨by omega, fun w1 => ?_, fun w1 => ⟨by omega, ?_⟩⟩⟩⟩
    · rw [if_neg (by omega)] at ep
      rw [ep] at nx
      rw [wr_ok (by omega) (by omega)]
      exact nx
    · rw [if_neg (by omega)] at ep
      rw [ep] at nx
      rw [wr_ok (by omega) (by omega)]
      exact nx
    · rw [if_pos ⟨by omega, w1⟩] at ep
      obtain ⟨fn, efn⟩ : ∃ fn : Nat, X.2.1 = fn := ⟨X.2.1.toNat, by rcases hx with hx | hx | hx <;> omega⟩
      rw [efn] at ep ⊢
      rw [Int.toNat_natCast] at ep
      refine sp_mcostOf (tms := tms) ho hM hwf l3 (by rcases hx with hx | hx | hx <;> omega) ?_
      rw [← ep]
      refine am_run 400 ?_; simp (disch := omega) only [ow_131, rt_131, rn_131_0, rn_131_1, rn_131_2, rn_131_3, rn_131_4, rf_131_4, rn_131_5, rn_131_6, rn_131_9, rn_131_12, rn_131_13, rn_131_14, rn_131_15, rn_131_16, rn_131_17, rn_131_18, rn_131_19, rn_131_22, rn_131_23, rn_131_26, rn_131_27, rn_131_28, rn_131_29, rn_131_32, rn_131_33, rn_131_34, rn_131_37, rn_131_38, rn_131_39, rn_131_42, rn_131_45, rn_131_46, rn_131_47, rn_131_48, rn_131_51, rn_131_54, rn_131_55, s_iconst_0, s_istore_n_2, am_kil_n, am_kil_i, am_kil_r, am_kil_l, s_istore_n_3, s_iload_n_3, s_aload_n_0, s_gf, am_gfq_e, am_nth_0, am_nth_s, fl_7_98, s_if2_ge, jm_9_45, s_iload_n_2, s_iload_n_1, s_ishr, s_iconst_1, s_iand, s_if2_ne, jm_19_26, fl_7_34, s_iald, am_iaq_e, s_iconst_2, jm_29_16, fl_7_37, s_ivv, am_ivq_e, am_cvq_e, am_po_s, am_po_n, am_sl_n, am_sl_i, am_sl_r, am_sl_l, ml_7_145, cq_114, s_goto, jm_42_4, s_iadd, s_iinc_3, jm_51_m47, s_irt, am_irq_1, am_irq_2, Int.le_refl, am_c3, am_c4, am_c6, am_c7, am_c8, am_c9, am_c27, am_c60, am_c240, am_c418, am_c3500, am_up_s, am_up_n, am_uu, ne_eq, Nat.reduceAdd, Int.reduceAdd, Int.reduceNeg, Int.reduceLE, Int.reduceToNat, true_and, and_true, List.length_cons, List.length_nil, Nat.reduceLeDiff, Nat.zero_add, Nat.add_zero, Nat.le_refl, true_or, or_true, reduceCtorEq, false_implies, implies_true, true_implies, not_true_eq_false, not_false_eq_true, eq_self, Int.zero_add, Int.reduceEq, Nat.reduceEqDiff, ho, am_i1]
      rw [wr_ok (by omega) (by omega)]
      exact nx
theorem sp_priceOf {S : Int} (ho : h 58 = mO ft tr fc tms.length pt rf st an vs lp wa ws wt wv wl rc) (hM : MF h fns) (hT : MT h tms) (l3 : fns.length ≤ 3) (l6 : tms.length ≤ 6) (hwf : WF fns tms) (k : K (some (iV (prc fns tms S))) n h) : am_M (d + 2) 131 [rV 58, iV S] n h K := by
  refine en_131 (am_run 400 ?_); simp (disch := omega) only [ow_131, rt_131, rn_131_0, rn_131_1, rn_131_2, rn_131_3, rn_131_4, rf_131_4, rn_131_5, rn_131_6, rn_131_9, rn_131_12, rn_131_13, rn_131_14, rn_131_15, rn_131_16, rn_131_17, rn_131_18, rn_131_19, rn_131_22, rn_131_23, rn_131_26, rn_131_27, rn_131_28, rn_131_29, rn_131_32, rn_131_33, rn_131_34, rn_131_37, rn_131_38, rn_131_39, rn_131_42, rn_131_45, rn_131_46, rn_131_47, rn_131_48, rn_131_51, rn_131_54, rn_131_55, s_iconst_0, s_istore_n_2, am_kil_n, am_kil_i, am_kil_r, am_kil_l, s_istore_n_3, s_iload_n_3, s_aload_n_0, s_gf, am_gfq_e, am_nth_0, am_nth_s, fl_7_98, s_if2_ge, jm_9_45, s_iload_n_2, s_iload_n_1, s_ishr, s_iconst_1, s_iand, s_if2_ne, jm_19_26, fl_7_34, s_iald, am_iaq_e, s_iconst_2, jm_29_16, fl_7_37, s_ivv, am_ivq_e, am_cvq_e, am_po_s, am_po_n, am_sl_n, am_sl_i, am_sl_r, am_sl_l, ml_7_145, cq_114, s_goto, jm_42_4, s_iadd, s_iinc_3, jm_51_m47, s_irt, am_irq_1, am_irq_2, Int.le_refl, am_c3, am_c4, am_c6, am_c7, am_c8, am_c9, am_c27, am_c60, am_c240, am_c418, am_c3500, am_up_s, am_up_n, am_uu, ne_eq, Nat.reduceAdd, Int.reduceAdd, Int.reduceNeg, Int.reduceLE, Int.reduceToNat, true_and, and_true, List.length_cons, List.length_nil, Nat.reduceLeDiff, Nat.zero_add, Nat.add_zero, Nat.le_refl, true_or, or_true, reduceCtorEq, false_implies, implies_true, true_implies, not_true_eq_false, not_false_eq_true, eq_self, Int.zero_add, Int.reduceEq, Nat.reduceEqDiff]
  exact lp_priceOf ho hM hT l3 l6 hwf k tms.length 0 (by omega)
/-- the row of the model beside the stands L -/
def RW (gs L rw st : List Int) : Prop := ∀ i, i < L.length → SR (L.getD i 0) (rw.getD i 0) ∧ st.getD i 0 = stp gs (L.getD i 0)
theorem RW.add {L rw st : List Int} {s m x : Int} (a : RW gs L rw st) (l1 : L.length < rw.length) (l2 : L.length < st.length) (h1 : SR s m) (h2 : x = stp gs s) : RW gs (L ++ [s]) (rw.set L.length m) (st.set L.length x) := by
  intro i hi
  rw [List.length_append, List.length_singleton] at hi
  by_cases q : i = L.length
  · rw [q, gd_ar rfl, gd_ss l1, gd_ss l2]
    exact ⟨h1, h2⟩
  · rw [gd_al (by omega), gd_sn (by omega), gd_sn (by omega)]
    exact a i (by omega)
theorem sp_toTheEnd {m x : Int} {j : Nat} {rw st : List Int} (ho : h 58 = mO ft tr fc tc pt rf j an vs lp wa ws wt wv wl rc) (h79 : h 79 = aC rw) (h80 : h 80 = aC st) (l1 : rw.length = 3500) (l2 : st.length = 3500) (hj : j < 3500) (k : K none n (am_up (am_up (am_up h 79 (aC (rw.set j m))) 80 (aC (st.set j x))) 58 (mO ft tr fc tc pt rf ((j + 1 : Nat) : Int) an vs lp wa ws wt wv wl rc))) : am_M (d + 1) 132 [rV 58, iV m, iV x] n h K := by
  refine en_132 (am_run 400 ?_); simp (disch := omega) only [ow_132, rt_132, rn_132_0, rn_132_1, rn_132_4, rn_132_5, rn_132_8, rn_132_9, rn_132_10, rn_132_11, rn_132_14, rn_132_15, rn_132_18, rn_132_19, rn_132_20, rn_132_21, rn_132_22, rn_132_25, rn_132_26, rn_132_27, rn_132_30, s_aload_n_0, s_gf, am_gfq_e, am_nth_0, am_nth_s, fl_7_70, fl_7_176, s_iload_n_1, s_iast, am_iwq_e, fl_7_73, s_iload_n_2, s_dup_i, s_dup_r, s_iconst_1, s_iadd, s_pf, am_pfq_e, am_fit_0, am_fit_1, am_fit_2, List.set_cons_zero, List.set_cons_succ, Nat.reduceLT, Bool.false_eq_true, Nat.lt_add_one, Nat.zero_lt_succ, fk_7_28, ff_7_28, in_132, s_vrt, am_orq_e, Int.le_refl, am_c3, am_c4, am_c6, am_c7, am_c8, am_c9, am_c27, am_c60, am_c240, am_c418, am_c3500, am_up_s, am_up_n, am_uu, ne_eq, Nat.reduceAdd, Int.reduceAdd, Int.reduceNeg, Int.reduceLE, Int.reduceToNat, true_and, and_true, List.length_cons, List.length_nil, Nat.reduceLeDiff, Nat.zero_add, Nat.add_zero, Nat.le_refl, true_or, or_true, reduceCtorEq, false_implies, implies_true, true_implies, not_true_eq_false, not_false_eq_true, eq_self, Int.zero_add, Int.reduceEq, Nat.reduceEqDiff, ho, h79, h80, l1, l2, Int.toNat_natCast, am_i1]
  exact ⟨by omega, by omega, k⟩
end
