/-! ROWS 7: what a row is asked -/
def fo {σ : Type} (f : σ → Int → σ) (a : σ) (L : List Int) : Nat → σ
  | 0 => a
  | j + 1 => f (fo f a L j) (L.getD j 0)
theorem fo_cg {σ : Type} {f : σ → Int → σ} {a : σ} {L M : List Int} : ∀ j, (∀ i, i < j → L.getD i 0 = M.getD i 0) → fo f a L j = fo f a M j
  | 0, _ => rfl
  | j + 1, h => by
    show f _ _ = f _ _
    rw [fo_cg j (fun i hi => h i (by omega)), h j (by omega)]
def fCt (e : Int → Int × Int) (a s : Int) : Int := if (e s).1 < 3 then a + 1 else a
def fVs (e : Int → Int × Int) (a s : Int) : Int := if (e s).1 < 3 then am_or a (am_shl 1 (e s).1) else a
def fLp (fns : List FnT) (tms : List TmT) (e : Int → Int × Int) (a s : Int) : Int := if (e s).1 < 3 then (if a = -9 then prc fns tms (e s).2 else if a ≤ prc fns tms (e s).2 then a else prc fns tms (e s).2) else a
theorem fo_s {σ : Type} {f : σ → Int → σ} {a : σ} {L : List Int} {j : Nat} : fo f a L (j + 1) = f (fo f a L j) (L.getD j 0) := rfl
theorem fCt_1 {e : Int → Int × Int} {a s : Int} (h : (e s).1 < 3) : fCt e a s = a + 1 := if_pos h
theorem fCt_0 {e : Int → Int × Int} {a s : Int} (h : ¬ (e s).1 < 3) : fCt e a s = a := if_neg h
theorem fVs_1 {e : Int → Int × Int} {a s : Int} (h : (e s).1 < 3) : fVs e a s = am_or a (am_shl 1 (e s).1) := if_pos h
theorem fVs_0 {e : Int → Int × Int} {a s : Int} (h : ¬ (e s).1 < 3) : fVs e a s = a := if_neg h
theorem fLp_1 {fns : List FnT} {tms : List TmT} {e : Int → Int × Int} {a s : Int} (h : (e s).1 < 3) : fLp fns tms e a s = if a = -9 then prc fns tms (e s).2 else if a ≤ prc fns tms (e s).2 then a else prc fns tms (e s).2 := if_pos h
theorem fLp_0 {fns : List FnT} {tms : List TmT} {e : Int → Int × Int} {a s : Int} (h : ¬ (e s).1 < 3) : fLp fns tms e a s = a := if_neg h
theorem ci1 {j : Nat} : ((j + 1 : Nat) : Int) = (j : Int) + 1 := by omega
theorem fCt_rng {e : Int → Int × Int} {L : List Int} : ∀ j, 0 ≤ fo (fCt e) 0 L j ∧ fo (fCt e) 0 L j ≤ j
  | 0 => ⟨Int.le_refl _, Int.le_refl _⟩
  | j + 1 => by
    have := fCt_rng (e := e) (L := L) j
    rw [fo_s]
    by_cases q : (e (L.getD j 0)).1 < 3
    · rw [fCt_1 q]; omega
    · rw [fCt_0 q]; omega
section
variable {d n : Nat} {h : am_H} {K : am_K} {r w : Nat} {fns : List FnT} {tms : List TmT} {gs : List Int} {L : List Int} {e : Int → Int × Int}
theorem RO.out (a : RO h r L e) : ∃ sd ou lk to tl, RS h r L.length sd ou lk to tl ∧ L.length ≤ 418 ∧ (∀ i, i < L.length → sd.getD i 0 = L.getD i 0) ∧ (∀ i, i < L.length → ou.getD i 0 = (e (L.getD i 0)).1) ∧ (∀ i, i < L.length → lk.getD i 0 = (e (L.getD i 0)).2) := by
  obtain ⟨h4, ou, lk, to, tl, ⟨sd, h1, h2⟩, h3⟩ := a
  exact ⟨sd, ou, lk, to, tl, h1, h4, h2, fun i hi => (h3 i hi).1, fun i hi => (h3 i hi).2⟩
theorem lp_answerCount (hO : RO h r L e) (k : K (some (iV (fo (fCt e) 0 L L.length))) n h) :
    ∀ (kk j : Nat), j + kk = L.length → am_W 10 n (am_M d) K 4 [some (rV r), some (iV (fo (fCt e) 0 L j)), some (iV j)] [] n h := by
  obtain ⟨sd, ou, lk, to, tl, ⟨r1, r2, r3, r4, r5, r6, r7, r8, r9, r10, r11⟩, h4, es, eo, el⟩ := hO.out
  intro kk
  induction kk with
  | zero =>
    intro j hj
    obtain rfl : j = L.length := by omega
    refine am_runH 400 ?_; simp (disch := omega) only [ow_10, rt_10, rn_10_0, rn_10_1, rn_10_2, rn_10_3, rn_10_4, rf_10_4, rn_10_5, rn_10_6, rn_10_9, rn_10_12, rn_10_13, rn_10_16, rn_10_17, rn_10_18, rn_10_19, rn_10_22, rn_10_25, rn_10_28, rn_10_31, rn_10_32, s_iconst_0, s_istore_n_1, am_kil_n, am_kil_i, am_kil_r, am_kil_l, s_istore_n_2, s_iload_n_2, s_aload_n_0, s_gf, am_gfq_e, am_nth_0, am_nth_s, fl_1_27, s_if2_ge, jm_9_22, fl_1_15, s_iald, am_iaq_e, s_iconst_3, jm_19_6, s_iinc_1, s_iinc_2, s_goto, jm_28_m24, s_iload_n_1, s_irt, am_irq_1, am_irq_2, Int.le_refl, am_c3, am_c4, am_c6, am_c7, am_c8, am_c9, am_c27, am_c60, am_c240, am_c418, am_c3500, am_up_s, am_up_n, am_uu, ne_eq, Nat.reduceAdd, Int.reduceAdd, Int.reduceNeg, Int.reduceLE, Int.reduceToNat, true_and, and_true, List.length_cons, List.length_nil, Nat.reduceLeDiff, Nat.zero_add, Nat.add_zero, Nat.le_refl, true_or, or_true, reduceCtorEq, false_implies, implies_true, true_implies, not_true_eq_false, not_false_eq_true, eq_self, Int.zero_add, Int.reduceEq, Nat.reduceEqDiff, r1, r3, r8, Int.toNat_natCast]
    exact k
  | succ kk ih =>
    intro j hj
    have hc := fCt_rng (e := e) (L := L) j
    have hn := ih (j + 1) (by omega)
    rw [fo_s, ci1] at hn
    refine am_runH 400 ?_; simp (disch := omega) only [ow_10, rt_10, rn_10_0, rn_10_1, rn_10_2, rn_10_3, rn_10_4, rf_10_4, rn_10_5, rn_10_6, rn_10_9, rn_10_12, rn_10_13, rn_10_16, rn_10_17, rn_10_18, rn_10_19, rn_10_22, rn_10_25, rn_10_28, rn_10_31, rn_10_32, s_iconst_0, s_istore_n_1, am_kil_n, am_kil_i, am_kil_r, am_kil_l, s_istore_n_2, s_iload_n_2, s_aload_n_0, s_gf, am_gfq_e, am_nth_0, am_nth_s, fl_1_27, s_if2_ge, jm_9_22, fl_1_15, s_iald, am_iaq_e, s_iconst_3, jm_19_6, s_iinc_1, s_iinc_2, s_goto, jm_28_m24, s_iload_n_1, s_irt, am_irq_1, am_irq_2, Int.le_refl, am_c3, am_c4, am_c6, am_c7, am_c8, am_c9, am_c27, am_c60, am_c240, am_c418, am_c3500, am_up_s, am_up_n, am_uu, ne_eq, Nat.reduceAdd, Int.reduceAdd, Int.reduceNeg, Int.reduceLE, Int.reduceToNat, true_and, and_true, List.length_cons, List.length_nil, Nat.reduceLeDiff, Nat.zero_add, Nat.add_zero, Nat.le_refl, true_or, or_true, reduceCtorEq, false_implies, implies_true, true_implies, not_true_eq_false, not_false_eq_true, eq_self, Int.zero_add, Int.reduceEq, Nat.reduceEqDiff, r1, r3, r8, Int.toNat_natCast, eo j (by omega), wr_ok]
    refine ⟨fun q => by omega, fun _ => ⟨by omega, fun q => ?_, fun q => ?_⟩⟩
    · rw [fCt_0 (by omega)] at hn
      exact hn
    · rw [fCt_1 (by omega)] at hn
      exact hn
theorem sp_answerCount (hO : RO h r L e) (k : K (some (iV (fo (fCt e) 0 L L.length))) n h) : am_M (d + 1) 10 [rV r] n h K := by
  refine en_10 (am_run 400 ?_); simp (disch := omega) only [ow_10, rt_10, rn_10_0, rn_10_1, rn_10_2, rn_10_3, rn_10_4, rf_10_4, rn_10_5, rn_10_6, rn_10_9, rn_10_12, rn_10_13, rn_10_16, rn_10_17, rn_10_18, rn_10_19, rn_10_22, rn_10_25, rn_10_28, rn_10_31, rn_10_32, s_iconst_0, s_istore_n_1, am_kil_n, am_kil_i, am_kil_r, am_kil_l, s_istore_n_2, s_iload_n_2, s_aload_n_0, s_gf, am_gfq_e, am_nth_0, am_nth_s, fl_1_27, s_if2_ge, jm_9_22, fl_1_15, s_iald, am_iaq_e, s_iconst_3, jm_19_6, s_iinc_1, s_iinc_2, s_goto, jm_28_m24, s_iload_n_1, s_irt, am_irq_1, am_irq_2, Int.le_refl, am_c3, am_c4, am_c6, am_c7, am_c8, am_c9, am_c27, am_c60, am_c240, am_c418, am_c3500, am_up_s, am_up_n, am_uu, ne_eq, Nat.reduceAdd, Int.reduceAdd, Int.reduceNeg, Int.reduceLE, Int.reduceToNat, true_and, and_true, List.length_cons, List.length_nil, Nat.reduceLeDiff, Nat.zero_add, Nat.add_zero, Nat.le_refl, true_or, or_true, reduceCtorEq, false_implies, implies_true, true_implies, not_true_eq_false, not_false_eq_true, eq_self, Int.zero_add, Int.reduceEq, Nat.reduceEqDiff]
  exact lp_answerCount hO k L.length 0 (by omega)
theorem lp_valueSet (hO : RO h r L e) (k : K (some (iV (fo (fVs e) 0 L L.length))) n h) :
    ∀ (kk j : Nat), j + kk = L.length → am_W 12 n (am_M d) K 4 [some (rV r), some (iV (fo (fVs e) 0 L j)), some (iV j)] [] n h := by
  obtain ⟨sd, ou, lk, to, tl, ⟨r1, r2, r3, r4, r5, r6, r7, r8, r9, r10, r11⟩, h4, es, eo, el⟩ := hO.out
  intro kk
  induction kk with
  | zero =>
    intro j hj
    obtain rfl : j = L.length := by omega
    refine am_runH 400 ?_; simp (disch := omega) only [ow_12, rt_12, rn_12_0, rn_12_1, rn_12_2, rn_12_3, rn_12_4, rf_12_4, rn_12_5, rn_12_6, rn_12_9, rn_12_12, rn_12_13, rn_12_16, rn_12_17, rn_12_18, rn_12_19, rn_12_22, rn_12_23, rn_12_24, rn_12_25, rn_12_28, rn_12_29, rn_12_30, rn_12_31, rn_12_32, rn_12_33, rn_12_36, rn_12_39, rn_12_40, s_iconst_0, s_istore_n_1, am_kil_n, am_kil_i, am_kil_r, am_kil_l, s_istore_n_2, s_iload_n_2, s_aload_n_0, s_gf, am_gfq_e, am_nth_0, am_nth_s, fl_1_27, s_if2_ge, jm_9_30, fl_1_15, s_iald, am_iaq_e, s_iconst_3, jm_19_14, s_iload_n_1, s_iconst_1, s_ishl, s_ior, s_iinc_2, s_goto, jm_36_m32, s_irt, am_irq_1, am_irq_2, Int.le_refl, am_c3, am_c4, am_c6, am_c7, am_c8, am_c9, am_c27, am_c60, am_c240, am_c418, am_c3500, am_up_s, am_up_n, am_uu, ne_eq, Nat.reduceAdd, Int.reduceAdd, Int.reduceNeg, Int.reduceLE, Int.reduceToNat, true_and, and_true, List.length_cons, List.length_nil, Nat.reduceLeDiff, Nat.zero_add, Nat.add_zero, Nat.le_refl, true_or, or_true, reduceCtorEq, false_implies, implies_true, true_implies, not_true_eq_false, not_false_eq_true, eq_self, Int.zero_add, Int.reduceEq, Nat.reduceEqDiff, r1, r3, r8, Int.toNat_natCast]
    exact k
  | succ kk ih =>
    intro j hj
    have hn := ih (j + 1) (by omega)
    rw [fo_s, ci1] at hn
    refine am_runH 400 ?_; simp (disch := omega) only [ow_12, rt_12, rn_12_0, rn_12_1, rn_12_2, rn_12_3, rn_12_4, rf_12_4, rn_12_5, rn_12_6, rn_12_9, rn_12_12, rn_12_13, rn_12_16, rn_12_17, rn_12_18, rn_12_19, rn_12_22, rn_12_23, rn_12_24, rn_12_25, rn_12_28, rn_12_29, rn_12_30, rn_12_31, rn_12_32, rn_12_33, rn_12_36, rn_12_39, rn_12_40, s_iconst_0, s_istore_n_1, am_kil_n, am_kil_i, am_kil_r, am_kil_l, s_istore_n_2, s_iload_n_2, s_aload_n_0, s_gf, am_gfq_e, am_nth_0, am_nth_s, fl_1_27, s_if2_ge, jm_9_30, fl_1_15, s_iald, am_iaq_e, s_iconst_3, jm_19_14, s_iload_n_1, s_iconst_1, s_ishl, s_ior, s_iinc_2, s_goto, jm_36_m32, s_irt, am_irq_1, am_irq_2, Int.le_refl, am_c3, am_c4, am_c6, am_c7, am_c8, am_c9, am_c27, am_c60, am_c240, am_c418, am_c3500, am_up_s, am_up_n, am_uu, ne_eq, Nat.reduceAdd, Int.reduceAdd, Int.reduceNeg, Int.reduceLE, Int.reduceToNat, true_and, and_true, List.length_cons, List.length_nil, Nat.reduceLeDiff, Nat.zero_add, Nat.add_zero, Nat.le_refl, true_or, or_true, reduceCtorEq, false_implies, implies_true, true_implies, not_true_eq_false, not_false_eq_true, eq_self, Int.zero_add, Int.reduceEq, Nat.reduceEqDiff, r1, r3, r8, Int.toNat_natCast, eo j (by omega), wr_ok]
    refine ⟨fun q => by omega, fun _ => ⟨by omega, fun q => ?_, fun q => ?_⟩⟩
    · rw [fVs_0 (by omega)] at hn
      exact hn
    · rw [fVs_1 (by omega)] at hn
      exact ⟨by omega, hn⟩
theorem sp_valueSet (hO : RO h r L e) (k : K (some (iV (fo (fVs e) 0 L L.length))) n h) : am_M (d + 1) 12 [rV r] n h K := by
  refine en_12 (am_run 400 ?_); simp (disch := omega) only [ow_12, rt_12, rn_12_0, rn_12_1, rn_12_2, rn_12_3, rn_12_4, rf_12_4, rn_12_5, rn_12_6, rn_12_9, rn_12_12, rn_12_13, rn_12_16, rn_12_17, rn_12_18, rn_12_19, rn_12_22, rn_12_23, rn_12_24, rn_12_25, rn_12_28, rn_12_29, rn_12_30, rn_12_31, rn_12_32, rn_12_33, rn_12_36, rn_12_39, rn_12_40, s_iconst_0, s_istore_n_1, am_kil_n, am_kil_i, am_kil_r, am_kil_l, s_istore_n_2, s_iload_n_2, s_aload_n_0, s_gf, am_gfq_e, am_nth_0, am_nth_s, fl_1_27, s_if2_ge, jm_9_30, fl_1_15, s_iald, am_iaq_e, s_iconst_3, jm_19_14, s_iload_n_1, s_iconst_1, s_ishl, s_ior, s_iinc_2, s_goto, jm_36_m32, s_irt, am_irq_1, am_irq_2, Int.le_refl, am_c3, am_c4, am_c6, am_c7, am_c8, am_c9, am_c27, am_c60, am_c240, am_c418, am_c3500, am_up_s, am_up_n, am_uu, ne_eq, Nat.reduceAdd, Int.reduceAdd, Int.reduceNeg, Int.reduceLE, Int.reduceToNat, true_and, and_true, List.length_cons, List.length_nil, Nat.reduceLeDiff, Nat.zero_add, Nat.add_zero, Nat.le_refl, true_or, or_true, reduceCtorEq, false_implies, implies_true, true_implies, not_true_eq_false, not_false_eq_true, eq_self, Int.zero_add, Int.reduceEq, Nat.reduceEqDiff]
  exact lp_valueSet hO k L.length 0 (by omega)
theorem lp_leastPrice (hO : RO h r L e) (hW : WR h w fns tms gs) (hwf : WF fns tms) (k : K (some (iV (fo (fLp fns tms e) (-9) L L.length))) n h) :
    ∀ (kk j : Nat), j + kk = L.length → am_W 13 n (am_M (d + 3)) K 5 [some (rV r), some (rV w), some (iV (fo (fLp fns tms e) (-9) L j)), some (iV j), none] [] n h := by
  obtain ⟨sd, ou, lk, to, tl, ⟨r1, r2, r3, r4, r5, r6, r7, r8, r9, r10, r11⟩, h4, es, eo, el⟩ := hO.out
  obtain ⟨l1, l2, F, T, hS, hF, hT⟩ := id hW
  intro kk
  induction kk with
  | zero =>
    intro j hj
    obtain rfl : j = L.length := by omega
    refine am_runH 400 ?_; simp (disch := omega) only [ow_13, rt_13, rn_13_0, rn_13_2, rn_13_3, rn_13_4, rn_13_5, rf_13_5, rn_13_6, rn_13_7, rn_13_10, rn_13_13, rn_13_14, rn_13_17, rn_13_18, rn_13_19, rn_13_20, rn_13_23, rn_13_24, rn_13_25, rn_13_28, rn_13_29, rn_13_30, rn_13_33, rn_13_35, rn_13_36, rn_13_38, rn_13_41, rn_13_43, rn_13_46, rn_13_47, rn_13_49, rn_13_52, rn_13_53, rn_13_56, rn_13_59, rn_13_60, s_bipush_m9, s_istore_n_2, am_kil_n, am_kil_i, am_kil_r, am_kil_l, s_iconst_0, s_istore_n_3, s_iload_n_3, s_aload_n_0, s_gf, am_gfq_e, am_nth_0, am_nth_s, fl_1_27, s_if2_ge, jm_10_49, fl_1_15, s_iald, am_iaq_e, s_iconst_3, jm_20_33, s_aload_n_1, fl_1_18, s_ivv, am_ivq_e, am_cvq_e, am_po_s, am_po_n, am_sl_n, am_sl_i, am_sl_r, am_sl_l, ml_1_120, cq_51, s_istore_4, s_iload_n_2, s_if2_ne, jm_38_8, s_iload_4, s_goto, jm_43_9, s_ivs, am_isv_1, am_isv_3, am_isv_5, s_acp, am_cpq_e, ml_1_123, cq_164, s_iinc_3, jm_56_m51, s_irt, am_irq_1, am_irq_2, Int.le_refl, am_c3, am_c4, am_c6, am_c7, am_c8, am_c9, am_c27, am_c60, am_c240, am_c418, am_c3500, am_up_s, am_up_n, am_uu, ne_eq, Nat.reduceAdd, Int.reduceAdd, Int.reduceNeg, Int.reduceLE, Int.reduceToNat, true_and, and_true, List.length_cons, List.length_nil, Nat.reduceLeDiff, Nat.zero_add, Nat.add_zero, Nat.le_refl, true_or, or_true, reduceCtorEq, false_implies, implies_true, true_implies, not_true_eq_false, not_false_eq_true, eq_self, Int.zero_add, Int.reduceEq, Nat.reduceEqDiff, r1, r3, r8, Int.toNat_natCast]
    exact k
  | succ kk ih =>
    intro j hj
    have hn := ih (j + 1) (by omega)
    rw [fo_s, ci1] at hn
    refine am_runH 400 ?_; simp (disch := omega) only [ow_13, rt_13, rn_13_0, rn_13_2, rn_13_3, rn_13_4, rn_13_5, rf_13_5, rn_13_6, rn_13_7, rn_13_10, rn_13_13, rn_13_14, rn_13_17, rn_13_18, rn_13_19, rn_13_20, rn_13_23, rn_13_24, rn_13_25, rn_13_28, rn_13_29, rn_13_30, rn_13_33, rn_13_35, rn_13_36, rn_13_38, rn_13_41, rn_13_43, rn_13_46, rn_13_47, rn_13_49, rn_13_52, rn_13_53, rn_13_56, rn_13_59, rn_13_60, s_bipush_m9, s_istore_n_2, am_kil_n, am_kil_i, am_kil_r, am_kil_l, s_iconst_0, s_istore_n_3, s_iload_n_3, s_aload_n_0, s_gf, am_gfq_e, am_nth_0, am_nth_s, fl_1_27, s_if2_ge, jm_10_49, fl_1_15, s_iald, am_iaq_e, s_iconst_3, jm_20_33, s_aload_n_1, fl_1_18, s_ivv, am_ivq_e, am_cvq_e, am_po_s, am_po_n, am_sl_n, am_sl_i, am_sl_r, am_sl_l, ml_1_120, cq_51, s_istore_4, s_iload_n_2, s_if2_ne, jm_38_8, s_iload_4, s_goto, jm_43_9, s_ivs, am_isv_1, am_isv_3, am_isv_5, s_acp, am_cpq_e, ml_1_123, cq_164, s_iinc_3, jm_56_m51, s_irt, am_irq_1, am_irq_2, Int.le_refl, am_c3, am_c4, am_c6, am_c7, am_c8, am_c9, am_c27, am_c60, am_c240, am_c418, am_c3500, am_up_s, am_up_n, am_uu, ne_eq, Nat.reduceAdd, Int.reduceAdd, Int.reduceNeg, Int.reduceLE, Int.reduceToNat, true_and, and_true, List.length_cons, List.length_nil, Nat.reduceLeDiff, Nat.zero_add, Nat.add_zero, Nat.le_refl, true_or, or_true, reduceCtorEq, false_implies, implies_true, true_implies, not_true_eq_false, not_false_eq_true, eq_self, Int.zero_add, Int.reduceEq, Nat.reduceEqDiff, r1, r3, r4, r8, r9, hS.1, Int.toNat_natCast, eo j (by omega), el j (by omega), wr_ok]
    refine ⟨fun q => by omega, fun _ => ⟨by omega, fun q => ?_, fun q => ⟨by omega, ?_⟩⟩⟩
    · rw [fLp_0 (by omega)] at hn
      exact hn
    · rw [fLp_1 (by omega)] at hn
      refine sp_costOf hW hwf ?_
      refine am_run 400 ?_; simp (disch := omega) only [ow_13, rt_13, rn_13_0, rn_13_2, rn_13_3, rn_13_4, rn_13_5, rf_13_5, rn_13_6, rn_13_7, rn_13_10, rn_13_13, rn_13_14, rn_13_17, rn_13_18, rn_13_19, rn_13_20, rn_13_23, rn_13_24, rn_13_25, rn_13_28, rn_13_29, rn_13_30, rn_13_33, rn_13_35, rn_13_36, rn_13_38, rn_13_41, rn_13_43, rn_13_46, rn_13_47, rn_13_49, rn_13_52, rn_13_53, rn_13_56, rn_13_59, rn_13_60, s_bipush_m9, s_istore_n_2, am_kil_n, am_kil_i, am_kil_r, am_kil_l, s_iconst_0, s_istore_n_3, s_iload_n_3, s_aload_n_0, s_gf, am_gfq_e, am_nth_0, am_nth_s, fl_1_27, s_if2_ge, jm_10_49, fl_1_15, s_iald, am_iaq_e, s_iconst_3, jm_20_33, s_aload_n_1, fl_1_18, s_ivv, am_ivq_e, am_cvq_e, am_po_s, am_po_n, am_sl_n, am_sl_i, am_sl_r, am_sl_l, ml_1_120, cq_51, s_istore_4, s_iload_n_2, s_if2_ne, jm_38_8, s_iload_4, s_goto, jm_43_9, s_ivs, am_isv_1, am_isv_3, am_isv_5, s_acp, am_cpq_e, ml_1_123, cq_164, s_iinc_3, jm_56_m51, s_irt, am_irq_1, am_irq_2, Int.le_refl, am_c3, am_c4, am_c6, am_c7, am_c8, am_c9, am_c27, am_c60, am_c240, am_c418, am_c3500, am_up_s, am_up_n, am_uu, ne_eq, Nat.reduceAdd, Int.reduceAdd, Int.reduceNeg, Int.reduceLE, Int.reduceToNat, true_and, and_true, List.length_cons, List.length_nil, Nat.reduceLeDiff, Nat.zero_add, Nat.add_zero, Nat.le_refl, true_or, or_true, reduceCtorEq, false_implies, implies_true, true_implies, not_true_eq_false, not_false_eq_true, eq_self, Int.zero_add, Int.reduceEq, Nat.reduceEqDiff, wr_ok]
      refine ⟨fun z => ?_, fun z => ?_⟩
      · rw [if_neg z] at hn
        refine sp_min ?_
        refine am_run 400 ?_; simp (disch := omega) only [ow_13, rt_13, rn_13_0, rn_13_2, rn_13_3, rn_13_4, rn_13_5, rf_13_5, rn_13_6, rn_13_7, rn_13_10, rn_13_13, rn_13_14, rn_13_17, rn_13_18, rn_13_19, rn_13_20, rn_13_23, rn_13_24, rn_13_25, rn_13_28, rn_13_29, rn_13_30, rn_13_33, rn_13_35, rn_13_36, rn_13_38, rn_13_41, rn_13_43, rn_13_46, rn_13_47, rn_13_49, rn_13_52, rn_13_53, rn_13_56, rn_13_59, rn_13_60, s_bipush_m9, s_istore_n_2, am_kil_n, am_kil_i, am_kil_r, am_kil_l, s_iconst_0, s_istore_n_3, s_iload_n_3, s_aload_n_0, s_gf, am_gfq_e, am_nth_0, am_nth_s, fl_1_27, s_if2_ge, jm_10_49, fl_1_15, s_iald, am_iaq_e, s_iconst_3, jm_20_33, s_aload_n_1, fl_1_18, s_ivv, am_ivq_e, am_cvq_e, am_po_s, am_po_n, am_sl_n, am_sl_i, am_sl_r, am_sl_l, ml_1_120, cq_51, s_istore_4, s_iload_n_2, s_if2_ne, jm_38_8, s_iload_4, s_goto, jm_43_9, s_ivs, am_isv_1, am_isv_3, am_isv_5, s_acp, am_cpq_e, ml_1_123, cq_164, s_iinc_3, jm_56_m51, s_irt, am_irq_1, am_irq_2, Int.le_refl, am_c3, am_c4, am_c6, am_c7, am_c8, am_c9, am_c27, am_c60, am_c240, am_c418, am_c3500, am_up_s, am_up_n, am_uu, ne_eq, Nat.reduceAdd, Int.reduceAdd, Int.reduceNeg, Int.reduceLE, Int.reduceToNat, true_and, and_true, List.length_cons, List.length_nil, Nat.reduceLeDiff, Nat.zero_add, Nat.add_zero, Nat.le_refl, true_or, or_true, reduceCtorEq, false_implies, implies_true, true_implies, not_true_eq_false, not_false_eq_true, eq_self, Int.zero_add, Int.reduceEq, Nat.reduceEqDiff, wr_ok]
        refine am_W.less ?_ hn
        exact ⟨rfl, rfl, rfl, rfl, trivial⟩
      · rw [if_pos z] at hn
        refine am_W.less ?_ hn
        exact ⟨rfl, rfl, rfl, rfl, trivial⟩
theorem sp_leastPrice (hO : RO h r L e) (hW : WR h w fns tms gs) (hwf : WF fns tms) (k : K (some (iV (fo (fLp fns tms e) (-9) L L.length))) n h) : am_M (d + 4) 13 [rV r, rV w] n h K := by
  refine en_13 (am_run 400 ?_); simp (disch := omega) only [ow_13, rt_13, rn_13_0, rn_13_2, rn_13_3, rn_13_4, rn_13_5, rf_13_5, rn_13_6, rn_13_7, rn_13_10, rn_13_13, rn_13_14, rn_13_17, rn_13_18, rn_13_19, rn_13_20, rn_13_23, rn_13_24, rn_13_25, rn_13_28, rn_13_29, rn_13_30, rn_13_33, rn_13_35, rn_13_36, rn_13_38, rn_13_41, rn_13_43, rn_13_46, rn_13_47, rn_13_49, rn_13_52, rn_13_53, rn_13_56, rn_13_59, rn_13_60, s_bipush_m9, s_istore_n_2, am_kil_n, am_kil_i, am_kil_r, am_kil_l, s_iconst_0, s_istore_n_3, s_iload_n_3, s_aload_n_0, s_gf, am_gfq_e, am_nth_0, am_nth_s, fl_1_27, s_if2_ge, jm_10_49, fl_1_15, s_iald, am_iaq_e, s_iconst_3, jm_20_33, s_aload_n_1, fl_1_18, s_ivv, am_ivq_e, am_cvq_e, am_po_s, am_po_n, am_sl_n, am_sl_i, am_sl_r, am_sl_l, ml_1_120, cq_51, s_istore_4, s_iload_n_2, s_if2_ne, jm_38_8, s_iload_4, s_goto, jm_43_9, s_ivs, am_isv_1, am_isv_3, am_isv_5, s_acp, am_cpq_e, ml_1_123, cq_164, s_iinc_3, jm_56_m51, s_irt, am_irq_1, am_irq_2, Int.le_refl, am_c3, am_c4, am_c6, am_c7, am_c8, am_c9, am_c27, am_c60, am_c240, am_c418, am_c3500, am_up_s, am_up_n, am_uu, ne_eq, Nat.reduceAdd, Int.reduceAdd, Int.reduceNeg, Int.reduceLE, Int.reduceToNat, true_and, and_true, List.length_cons, List.length_nil, Nat.reduceLeDiff, Nat.zero_add, Nat.add_zero, Nat.le_refl, true_or, or_true, reduceCtorEq, false_implies, implies_true, true_implies, not_true_eq_false, not_false_eq_true, eq_self, Int.zero_add, Int.reduceEq, Nat.reduceEqDiff]
  exact lp_leastPrice hO hW hwf k L.length 0 (by omega)
theorem lp_placeOfAnswer {c : Int} (hO : RO h r L e) (k1 : ∀ j, j < L.length → (e (L.getD j 0)).1 < 3 → fo (fCt e) 0 L j = c → K (some (iV j)) n h) (k0 : (∀ j, j < L.length → (e (L.getD j 0)).1 < 3 → fo (fCt e) 0 L j ≠ c) → K (some (iV (-9))) n h) :
    ∀ (kk j : Nat), j + kk = L.length → (∀ i, i < j → (e (L.getD i 0)).1 < 3 → fo (fCt e) 0 L i ≠ c) → am_W 11 n (am_M d) K 4 [some (rV r), some (iV c), some (iV (fo (fCt e) 0 L j)), some (iV j)] [] n h := by
  obtain ⟨sd, ou, lk, to, tl, ⟨r1, r2, r3, r4, r5, r6, r7, r8, r9, r10, r11⟩, h4, es, eo, el⟩ := hO.out
  intro kk
  induction kk with
  | zero =>
    intro j hj hh
    obtain rfl : j = L.length := by omega
    refine am_runH 400 ?_; simp (disch := omega) only [ow_11, rt_11, rn_11_0, rn_11_1, rn_11_2, rn_11_3, rn_11_4, rf_11_4, rn_11_5, rn_11_6, rn_11_9, rn_11_12, rn_11_13, rn_11_16, rn_11_17, rn_11_18, rn_11_19, rn_11_22, rn_11_23, rn_11_24, rn_11_27, rn_11_28, rn_11_29, rn_11_32, rn_11_35, rn_11_38, rn_11_40, s_iconst_0, s_istore_n_2, am_kil_n, am_kil_i, am_kil_r, am_kil_l, s_istore_n_3, s_iload_n_3, s_aload_n_0, s_gf, am_gfq_e, am_nth_0, am_nth_s, fl_1_27, s_if2_ge, jm_9_29, fl_1_15, s_iald, am_iaq_e, s_iconst_3, jm_19_13, s_iload_n_2, s_iload_n_1, s_if2_ne, jm_24_5, s_irt, am_irq_1, am_irq_2, s_iinc_2, s_iinc_3, s_goto, jm_35_m31, s_bipush_m9, Int.le_refl, am_c3, am_c4, am_c6, am_c7, am_c8, am_c9, am_c27, am_c60, am_c240, am_c418, am_c3500, am_up_s, am_up_n, am_uu, ne_eq, Nat.reduceAdd, Int.reduceAdd, Int.reduceNeg, Int.reduceLE, Int.reduceToNat, true_and, and_true, List.length_cons, List.length_nil, Nat.reduceLeDiff, Nat.zero_add, Nat.add_zero, Nat.le_refl, true_or, or_true, reduceCtorEq, false_implies, implies_true, true_implies, not_true_eq_false, not_false_eq_true, eq_self, Int.zero_add, Int.reduceEq, Nat.reduceEqDiff, r1, r3, r8, Int.toNat_natCast]
    exact k0 hh
  | succ kk ih =>
    intro j hj hh
    have hc := fCt_rng (e := e) (L := L) j
    have hn := ih (j + 1) (by omega)
    rw [fo_s, ci1] at hn
    refine am_runH 400 ?_; simp (disch := omega) only [ow_11, rt_11, rn_11_0, rn_11_1, rn_11_2, rn_11_3, rn_11_4, rf_11_4, rn_11_5, rn_11_6, rn_11_9, rn_11_12, rn_11_13, rn_11_16, rn_11_17, rn_11_18, rn_11_19, rn_11_22, rn_11_23, rn_11_24, rn_11_27, rn_11_28, rn_11_29, rn_11_32, rn_11_35, rn_11_38, rn_11_40, s_iconst_0, s_istore_n_2, am_kil_n, am_kil_i, am_kil_r, am_kil_l, s_istore_n_3, s_iload_n_3, s_aload_n_0, s_gf, am_gfq_e, am_nth_0, am_nth_s, fl_1_27, s_if2_ge, jm_9_29, fl_1_15, s_iald, am_iaq_e, s_iconst_3, jm_19_13, s_iload_n_2, s_iload_n_1, s_if2_ne, jm_24_5, s_irt, am_irq_1, am_irq_2, s_iinc_2, s_iinc_3, s_goto, jm_35_m31, s_bipush_m9, Int.le_refl, am_c3, am_c4, am_c6, am_c7, am_c8, am_c9, am_c27, am_c60, am_c240, am_c418, am_c3500, am_up_s, am_up_n, am_uu, ne_eq, Nat.reduceAdd, Int.reduceAdd, Int.reduceNeg, Int.reduceLE, Int.reduceToNat, true_and, and_true, List.length_cons, List.length_nil, Nat.reduceLeDiff, Nat.zero_add, Nat.add_zero, Nat.le_refl, true_or, or_true, reduceCtorEq, false_implies, implies_true, true_implies, not_true_eq_false, not_false_eq_true, eq_self, Int.zero_add, Int.reduceEq, Nat.reduceEqDiff, r1, r3, r8, Int.toNat_natCast, eo j (by omega), wr_ok]
    refine ⟨fun q => by omega, fun _ => ⟨by omega, fun q => ?_, fun q => ⟨fun q1 => ?_, fun q1 => ?_⟩⟩⟩
    · rw [fCt_0 (by omega)] at hn
      refine hn (fun i hi h1 => ?_)
      by_cases z : i = j
      · subst z; omega
      · exact hh i (by omega) h1
    · rw [fCt_1 (by omega)] at hn
      refine hn (fun i hi h1 => ?_)
      by_cases z : i = j
      · subst z; exact q1
      · exact hh i (by omega) h1
    · exact k1 j (by omega) (by omega) q1
theorem sp_placeOfAnswer {c : Int} (hO : RO h r L e) (k1 : ∀ j, j < L.length → (e (L.getD j 0)).1 < 3 → fo (fCt e) 0 L j = c → K (some (iV j)) n h) (k0 : (∀ j, j < L.length → (e (L.getD j 0)).1 < 3 → fo (fCt e) 0 L j ≠ c) → K (some (iV (-9))) n h) : am_M (d + 1) 11 [rV r, iV c] n h K := by
  refine en_11 (am_run 400 ?_); simp (disch := omega) only [ow_11, rt_11, rn_11_0, rn_11_1, rn_11_2, rn_11_3, rn_11_4, rf_11_4, rn_11_5, rn_11_6, rn_11_9, rn_11_12, rn_11_13, rn_11_16, rn_11_17, rn_11_18, rn_11_19, rn_11_22, rn_11_23, rn_11_24, rn_11_27, rn_11_28, rn_11_29, rn_11_32, rn_11_35, rn_11_38, rn_11_40, s_iconst_0, s_istore_n_2, am_kil_n, am_kil_i, am_kil_r, am_kil_l, s_istore_n_3, s_iload_n_3, s_aload_n_0, s_gf, am_gfq_e, am_nth_0, am_nth_s, fl_1_27, s_if2_ge, jm_9_29, fl_1_15, s_iald, am_iaq_e, s_iconst_3, jm_19_13, s_iload_n_2, s_iload_n_1, s_if2_ne, jm_24_5, s_irt, am_irq_1, am_irq_2, s_iinc_2, s_iinc_3, s_goto, jm_35_m31, s_bipush_m9, Int.le_refl, am_c3, am_c4, am_c6, am_c7, am_c8, am_c9, am_c27, am_c60, am_c240, am_c418, am_c3500, am_up_s, am_up_n, am_uu, ne_eq, Nat.reduceAdd, Int.reduceAdd, Int.reduceNeg, Int.reduceLE, Int.reduceToNat, true_and, and_true, List.length_cons, List.length_nil, Nat.reduceLeDiff, Nat.zero_add, Nat.add_zero, Nat.le_refl, true_or, or_true, reduceCtorEq, false_implies, implies_true, true_implies, not_true_eq_false, not_false_eq_true, eq_self, Int.zero_add, Int.reduceEq, Nat.reduceEqDiff]
  exact lp_placeOfAnswer hO k1 k0 L.length 0 (by omega) (fun i hi => by omega)
end
