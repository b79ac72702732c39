/-! TEXTS: the parser, as a function, and the class's reader -/
section
variable (c : Nat → Int) (len : Nat)
def pd (lo hi : Int) (x : Nat) : Option Int × Nat := if x < len ∧ 48 + lo ≤ c x ∧ c x ≤ 48 + hi then (some (c x - 48), x + 1) else (none, x)
def pe (x : Nat) : Option Int × Nat := if x < len ∧ c x = 102 then (some 3, x + 1) else pd c len 0 2 x
def pb : Nat → Nat → Option (List Int) × Nat
  | 0, x => (some [], x)
  | k + 1, x => match pe c len x with
    | (none, a) => (none, a)
    | (some e, a) => (match pb k a with
      | (none, b) => (none, b)
      | (some l, b) => (some (e :: l), b))
end
/-- the reader's cell -/
abbrev rdC (p s len x : Nat) : am_C := oC 4 [rV p, iV s, iV len, iV x]
/-- what the reader reads: n cells of a sheet from s on -/
def RDb (h : am_H) (r p cc s len : Nat) (cells : List Int) : Prop := (∃ t l : am_V, ∃ sz : Int, h p = oC 2 [t, l, iV sz, rV cc] ∧ (s : Int) + len ≤ sz ∧ sz ≤ 60) ∧ h cc = aC cells ∧ cells.length = 60 ∧ p < r ∧ cc < r
theorem RDb.frame {h h' : am_H} {r p cc s len : Nat} {cells : List Int} (a : RDb h r p cc s len cells) (h1 : h' p = h p) (h2 : h' cc = h cc) : RDb h' r p cc s len cells := by
  obtain ⟨⟨t, l, sz, a1, a2, a3⟩, a4, a5⟩ := a
  exact ⟨⟨t, l, sz, h1.trans a1, a2, a3⟩, h2.trans a4, a5⟩
abbrev cF (cells : List Int) (s : Nat) : Nat → Int := fun x => cells.getD (s + x) 0
section
variable {d n : Nat} {h : am_H} {K : am_K} {r p cc s len x : Nat} {cells : List Int}
theorem sp_passes {code : Int} (hR : RDb h r p cc s len cells) (hx : x ≤ len) (k1 : x < len ∧ cF cells s x = code → K (some (iV 1)) n (am_up h r (rdC p s len (x + 1)))) (k0 : ¬ (x < len ∧ cF cells s x = code) → K (some (iV 0)) n (am_up h r (rdC p s len x))) : am_M (d + 2) 39 [rV r, iV code] n (am_up h r (rdC p s len x)) K := by
  obtain ⟨⟨t, l, sz, a1, a2, a3⟩, a4, a5, a6, a7⟩ := hR
  have e1 : am_up h r (rdC p s len x) p = oC 2 [t, l, iV sz, rV cc] := by rw [am_up_n (by omega)]; exact a1
  have e2 : am_up h r (rdC p s len x) cc = aC cells := by rw [am_up_n (by omega)]; exact a4
  refine en_39 (am_run 400 ?_); simp (disch := omega) only [ow_39, rt_39, rn_39_0, rn_39_1, rn_39_4, rn_39_5, rn_39_8, rn_39_9, rn_39_10, rn_39_11, rn_39_14, rn_39_17, rn_39_18, rn_39_21, rn_39_22, rn_39_25, rn_39_28, rn_39_29, rn_39_32, rn_39_33, rn_39_34, rn_39_37, rn_39_40, rn_39_43, rn_39_44, rn_39_47, rn_39_50, rn_39_51, rn_39_52, rn_39_53, rn_39_56, rn_39_57, rn_39_58, rn_39_59, rn_39_60, rn_39_63, rn_39_64, rn_39_65, rn_39_68, rn_39_69, s_aload_n_0, s_gf, am_gfq_e, am_nth_0, am_nth_s, fl_4_15, fl_4_22, s_iadd, s_istore_n_2, am_kil_n, am_kil_i, am_kil_r, am_kil_l, fl_4_9, s_ifn_n, s_ifn_s, jm_14_42, fl_4_19, s_if2_ge, jm_25_31, s_iload_n_2, s_if1_lt, jm_29_27, fl_4_81, jm_40_16, fl_4_86, s_iald, am_iaq_e, s_iload_n_1, s_if2_eq, jm_53_5, s_iconst_0, s_irt, am_irq_1, am_irq_2, s_dup_i, s_dup_r, s_iconst_1, s_pf, am_pfq_e, am_fit_0, am_fit_1, am_fit_2, List.set_cons_zero, List.set_cons_succ, Nat.reduceLT, Bool.false_eq_true, Nat.lt_add_one, Nat.zero_lt_succ, fk_4_3, ff_4_3, in_39, Int.le_refl, am_c3, am_c4, am_c6, am_c7, am_c8, am_c9, am_c27, am_c60, am_c240, am_c418, am_c3500, am_up_s, am_up_n, am_uu, ne_eq, Nat.reduceAdd, Int.reduceAdd, Int.reduceNeg, Int.reduceLE, Int.reduceToNat, true_and, and_true, List.length_cons, List.length_nil, Nat.reduceLeDiff, Nat.zero_add, Nat.add_zero, Nat.le_refl, true_or, or_true, reduceCtorEq, false_implies, implies_true, true_implies, not_true_eq_false, not_false_eq_true, eq_self, Int.zero_add, Int.reduceEq, Nat.reduceEqDiff, a1, a4, a5, wr_ok]
  have e4 : ((s : Int) + x).toNat = s + x := by omega
  rw [e4]
  exact ⟨fun q => k0 (by omega), fun q => ⟨fun q1 => by omega, fun q1 => ⟨fun q2 => by omega, fun q2 => ⟨by omega, fun q3 => k1 ⟨by omega, q3⟩, fun q3 => k0 (fun z => q3 z.2)⟩⟩⟩⟩
theorem lp_readDigit {lo hi : Int} (hR : RDb h r p cc s len cells) (hx : x ≤ len) (hlo : 0 ≤ lo ∧ hi ≤ 9) (k1 : ∀ v a, pd (cF cells s) len lo hi x = (some v, a) → K (some (iV v)) n (am_up h r (rdC p s len a))) (k0 : pd (cF cells s) len lo hi x = (none, x) → K (some (iV (-1))) n (am_up h r (rdC p s len x))) :
    ∀ (k : Nat) (g : Int), g + k = hi + 1 → lo ≤ g → ¬ (x < len ∧ 48 + lo ≤ cF cells s x ∧ cF cells s x < 48 + g) → am_W 38 n (am_M (d + 2)) K 2 [some (rV r), some (iV lo), some (iV hi), some (iV g)] [] n (am_up h r (rdC p s len x)) := by
  intro k
  induction k with
  | zero =>
    intro g hg hl hq
    refine am_runH 400 ?_; simp (disch := omega) only [ow_38, rt_38, rn_38_0, rn_38_1, rn_38_2, rf_38_2, rn_38_3, rn_38_4, rn_38_7, rn_38_8, rn_38_10, rn_38_11, rn_38_12, rn_38_15, rn_38_18, rn_38_19, rn_38_20, rn_38_23, rn_38_26, rn_38_27, s_iload_n_1, s_istore_n_3, am_kil_n, am_kil_i, am_kil_r, am_kil_l, s_iload_n_3, s_iload_n_2, s_if2_gt, jm_4_22, s_aload_n_0, s_bipush_48, s_iadd, s_ivv, am_ivq_e, am_cvq_e, am_po_s, am_po_n, am_sl_n, am_sl_i, am_sl_r, am_sl_l, ml_4_25, cq_39, s_if1_eq, jm_15_5, s_irt, am_irq_1, am_irq_2, s_iinc_3, s_goto, jm_23_m21, s_iconst_m1, Int.le_refl, am_c3, am_c4, am_c6, am_c7, am_c8, am_c9, am_c27, am_c60, am_c240, am_c418, am_c3500, am_up_s, am_up_n, am_uu, ne_eq, Nat.reduceAdd, Int.reduceAdd, Int.reduceNeg, Int.reduceLE, Int.reduceToNat, true_and, and_true, List.length_cons, List.length_nil, Nat.reduceLeDiff, Nat.zero_add, Nat.add_zero, Nat.le_refl, true_or, or_true, reduceCtorEq, false_implies, implies_true, true_implies, not_true_eq_false, not_false_eq_true, eq_self, Int.zero_add, Int.reduceEq, Nat.reduceEqDiff]
    refine ⟨fun q => ?_, fun q => by omega⟩
    refine k0 ?_
    unfold pd
    rw [if_neg (by omega)]
  | succ k ih =>
    intro g hg hl hq
    refine am_runH 400 ?_; simp (disch := omega) only [ow_38, rt_38, rn_38_0, rn_38_1, rn_38_2, rf_38_2, rn_38_3, rn_38_4, rn_38_7, rn_38_8, rn_38_10, rn_38_11, rn_38_12, rn_38_15, rn_38_18, rn_38_19, rn_38_20, rn_38_23, rn_38_26, rn_38_27, s_iload_n_1, s_istore_n_3, am_kil_n, am_kil_i, am_kil_r, am_kil_l, s_iload_n_3, s_iload_n_2, s_if2_gt, jm_4_22, s_aload_n_0, s_bipush_48, s_iadd, s_ivv, am_ivq_e, am_cvq_e, am_po_s, am_po_n, am_sl_n, am_sl_i, am_sl_r, am_sl_l, ml_4_25, cq_39, s_if1_eq, jm_15_5, s_irt, am_irq_1, am_irq_2, s_iinc_3, s_goto, jm_23_m21, s_iconst_m1, Int.le_refl, am_c3, am_c4, am_c6, am_c7, am_c8, am_c9, am_c27, am_c60, am_c240, am_c418, am_c3500, am_up_s, am_up_n, am_uu, ne_eq, Nat.reduceAdd, Int.reduceAdd, Int.reduceNeg, Int.reduceLE, Int.reduceToNat, true_and, and_true, List.length_cons, List.length_nil, Nat.reduceLeDiff, Nat.zero_add, Nat.add_zero, Nat.le_refl, true_or, or_true, reduceCtorEq, false_implies, implies_true, true_implies, not_true_eq_false, not_false_eq_true, eq_self, Int.zero_add, Int.reduceEq, Nat.reduceEqDiff]
    refine ⟨fun q => by omega, fun q => ?_⟩
    rw [wr_ok (by omega) (by omega)]
    refine sp_passes hR hx (fun q1 => ?_) (fun q1 => ?_)
    · refine am_run 400 ?_; simp (disch := omega) only [ow_38, rt_38, rn_38_0, rn_38_1, rn_38_2, rf_38_2, rn_38_3, rn_38_4, rn_38_7, rn_38_8, rn_38_10, rn_38_11, rn_38_12, rn_38_15, rn_38_18, rn_38_19, rn_38_20, rn_38_23, rn_38_26, rn_38_27, s_iload_n_1, s_istore_n_3, am_kil_n, am_kil_i, am_kil_r, am_kil_l, s_iload_n_3, s_iload_n_2, s_if2_gt, jm_4_22, s_aload_n_0, s_bipush_48, s_iadd, s_ivv, am_ivq_e, am_cvq_e, am_po_s, am_po_n, am_sl_n, am_sl_i, am_sl_r, am_sl_l, ml_4_25, cq_39, s_if1_eq, jm_15_5, s_irt, am_irq_1, am_irq_2, s_iinc_3, s_goto, jm_23_m21, s_iconst_m1, Int.le_refl, am_c3, am_c4, am_c6, am_c7, am_c8, am_c9, am_c27, am_c60, am_c240, am_c418, am_c3500, am_up_s, am_up_n, am_uu, ne_eq, Nat.reduceAdd, Int.reduceAdd, Int.reduceNeg, Int.reduceLE, Int.reduceToNat, true_and, and_true, List.length_cons, List.length_nil, Nat.reduceLeDiff, Nat.zero_add, Nat.add_zero, Nat.le_refl, true_or, or_true, reduceCtorEq, false_implies, implies_true, true_implies, not_true_eq_false, not_false_eq_true, eq_self, Int.zero_add, Int.reduceEq, Nat.reduceEqDiff]
      refine k1 g (x + 1) ?_
      unfold pd
      rw [if_pos (by omega)]
      have : cF cells s x - 48 = g := by omega
      rw [this]
    · refine am_run 400 ?_; simp (disch := omega) only [ow_38, rt_38, rn_38_0, rn_38_1, rn_38_2, rf_38_2, rn_38_3, rn_38_4, rn_38_7, rn_38_8, rn_38_10, rn_38_11, rn_38_12, rn_38_15, rn_38_18, rn_38_19, rn_38_20, rn_38_23, rn_38_26, rn_38_27, s_iload_n_1, s_istore_n_3, am_kil_n, am_kil_i, am_kil_r, am_kil_l, s_iload_n_3, s_iload_n_2, s_if2_gt, jm_4_22, s_aload_n_0, s_bipush_48, s_iadd, s_ivv, am_ivq_e, am_cvq_e, am_po_s, am_po_n, am_sl_n, am_sl_i, am_sl_r, am_sl_l, ml_4_25, cq_39, s_if1_eq, jm_15_5, s_irt, am_irq_1, am_irq_2, s_iinc_3, s_goto, jm_23_m21, s_iconst_m1, Int.le_refl, am_c3, am_c4, am_c6, am_c7, am_c8, am_c9, am_c27, am_c60, am_c240, am_c418, am_c3500, am_up_s, am_up_n, am_uu, ne_eq, Nat.reduceAdd, Int.reduceAdd, Int.reduceNeg, Int.reduceLE, Int.reduceToNat, true_and, and_true, List.length_cons, List.length_nil, Nat.reduceLeDiff, Nat.zero_add, Nat.add_zero, Nat.le_refl, true_or, or_true, reduceCtorEq, false_implies, implies_true, true_implies, not_true_eq_false, not_false_eq_true, eq_self, Int.zero_add, Int.reduceEq, Nat.reduceEqDiff, wr_ok]
      exact ih (g + 1) (by omega) (by omega) (by omega)
theorem sp_readDigit {lo hi : Int} (hR : RDb h r p cc s len cells) (hx : x ≤ len) (hlo : 0 ≤ lo ∧ hi ≤ 9 ∧ lo ≤ hi) (k1 : ∀ v a, pd (cF cells s) len lo hi x = (some v, a) → K (some (iV v)) n (am_up h r (rdC p s len a))) (k0 : pd (cF cells s) len lo hi x = (none, x) → K (some (iV (-1))) n (am_up h r (rdC p s len x))) : am_M (d + 3) 38 [rV r, iV lo, iV hi] n (am_up h r (rdC p s len x)) K := by
  refine en_38 (am_run 400 ?_); simp (disch := omega) only [ow_38, rt_38, rn_38_0, rn_38_1, rn_38_2, rf_38_2, rn_38_3, rn_38_4, rn_38_7, rn_38_8, rn_38_10, rn_38_11, rn_38_12, rn_38_15, rn_38_18, rn_38_19, rn_38_20, rn_38_23, rn_38_26, rn_38_27, s_iload_n_1, s_istore_n_3, am_kil_n, am_kil_i, am_kil_r, am_kil_l, s_iload_n_3, s_iload_n_2, s_if2_gt, jm_4_22, s_aload_n_0, s_bipush_48, s_iadd, s_ivv, am_ivq_e, am_cvq_e, am_po_s, am_po_n, am_sl_n, am_sl_i, am_sl_r, am_sl_l, ml_4_25, cq_39, s_if1_eq, jm_15_5, s_irt, am_irq_1, am_irq_2, s_iinc_3, s_goto, jm_23_m21, s_iconst_m1, Int.le_refl, am_c3, am_c4, am_c6, am_c7, am_c8, am_c9, am_c27, am_c60, am_c240, am_c418, am_c3500, am_up_s, am_up_n, am_uu, ne_eq, Nat.reduceAdd, Int.reduceAdd, Int.reduceNeg, Int.reduceLE, Int.reduceToNat, true_and, and_true, List.length_cons, List.length_nil, Nat.reduceLeDiff, Nat.zero_add, Nat.add_zero, Nat.le_refl, true_or, or_true, reduceCtorEq, false_implies, implies_true, true_implies, not_true_eq_false, not_false_eq_true, eq_self, Int.zero_add, Int.reduceEq, Nat.reduceEqDiff]
  exact lp_readDigit hR hx ⟨hlo.1, hlo.2.1⟩ k1 k0 (hi + 1 - lo).toNat lo (by omega) (by omega) (by omega)
theorem sp_readEnd (hR : RDb h r p cc s len cells) (hx : x ≤ len) (k1 : ∀ v a, pe (cF cells s) len x = (some v, a) → K (some (iV v)) n (am_up h r (rdC p s len a))) (k0 : pe (cF cells s) len x = (none, x) → K (some (iV (-1))) n (am_up h r (rdC p s len x))) : am_M (d + 4) 37 [rV r] n (am_up h r (rdC p s len x)) K := by
  refine en_37 (am_run 400 ?_); simp (disch := omega) only [ow_37, rt_37, rn_37_0, rn_37_1, rn_37_3, rn_37_6, rn_37_9, rn_37_10, rn_37_13, rn_37_14, rn_37_15, rn_37_16, rn_37_19, s_aload_n_0, s_bipush_102, s_ivv, am_ivq_e, am_cvq_e, am_po_s, am_po_n, am_sl_n, am_sl_i, am_sl_r, am_sl_l, ml_4_25, cq_39, s_if1_eq, jm_6_7, s_iconst_3, s_goto, jm_10_9, s_iconst_0, s_iconst_2, ml_4_46, cq_38, s_irt, am_irq_1, am_irq_2, Int.le_refl, am_c3, am_c4, am_c6, am_c7, am_c8, am_c9, am_c27, am_c60, am_c240, am_c418, am_c3500, am_up_s, am_up_n, am_uu, ne_eq, Nat.reduceAdd, Int.reduceAdd, Int.reduceNeg, Int.reduceLE, Int.reduceToNat, true_and, and_true, List.length_cons, List.length_nil, Nat.reduceLeDiff, Nat.zero_add, Nat.add_zero, Nat.le_refl, true_or, or_true, reduceCtorEq, false_implies, implies_true, true_implies, not_true_eq_false, not_false_eq_true, eq_self, Int.zero_add, Int.reduceEq, Nat.reduceEqDiff]
  refine sp_passes hR hx (fun q => ?_) (fun q => ?_)
  · refine am_run 400 ?_; simp (disch := omega) only [ow_37, rt_37, rn_37_0, rn_37_1, rn_37_3, rn_37_6, rn_37_9, rn_37_10, rn_37_13, rn_37_14, rn_37_15, rn_37_16, rn_37_19, s_aload_n_0, s_bipush_102, s_ivv, am_ivq_e, am_cvq_e, am_po_s, am_po_n, am_sl_n, am_sl_i, am_sl_r, am_sl_l, ml_4_25, cq_39, s_if1_eq, jm_6_7, s_iconst_3, s_goto, jm_10_9, s_iconst_0, s_iconst_2, ml_4_46, cq_38, s_irt, am_irq_1, am_irq_2, Int.le_refl, am_c3, am_c4, am_c6, am_c7, am_c8, am_c9, am_c27, am_c60, am_c240, am_c418, am_c3500, am_up_s, am_up_n, am_uu, ne_eq, Nat.reduceAdd, Int.reduceAdd, Int.reduceNeg, Int.reduceLE, Int.reduceToNat, true_and, and_true, List.length_cons, List.length_nil, Nat.reduceLeDiff, Nat.zero_add, Nat.add_zero, Nat.le_refl, true_or, or_true, reduceCtorEq, false_implies, implies_true, true_implies, not_true_eq_false, not_false_eq_true, eq_self, Int.zero_add, Int.reduceEq, Nat.reduceEqDiff]
    exact k1 3 (x + 1) (by unfold pe; rw [if_pos q])
  · refine am_run 400 ?_; simp (disch := omega) only [ow_37, rt_37, rn_37_0, rn_37_1, rn_37_3, rn_37_6, rn_37_9, rn_37_10, rn_37_13, rn_37_14, rn_37_15, rn_37_16, rn_37_19, s_aload_n_0, s_bipush_102, s_ivv, am_ivq_e, am_cvq_e, am_po_s, am_po_n, am_sl_n, am_sl_i, am_sl_r, am_sl_l, ml_4_25, cq_39, s_if1_eq, jm_6_7, s_iconst_3, s_goto, jm_10_9, s_iconst_0, s_iconst_2, ml_4_46, cq_38, s_irt, am_irq_1, am_irq_2, Int.le_refl, am_c3, am_c4, am_c6, am_c7, am_c8, am_c9, am_c27, am_c60, am_c240, am_c418, am_c3500, am_up_s, am_up_n, am_uu, ne_eq, Nat.reduceAdd, Int.reduceAdd, Int.reduceNeg, Int.reduceLE, Int.reduceToNat, true_and, and_true, List.length_cons, List.length_nil, Nat.reduceLeDiff, Nat.zero_add, Nat.add_zero, Nat.le_refl, true_or, or_true, reduceCtorEq, false_implies, implies_true, true_implies, not_true_eq_false, not_false_eq_true, eq_self, Int.zero_add, Int.reduceEq, Nat.reduceEqDiff]
    refine sp_readDigit hR hx (by omega) (fun v a e => ?_) (fun e => ?_)
    · refine am_run 400 ?_; simp (disch := omega) only [ow_37, rt_37, rn_37_0, rn_37_1, rn_37_3, rn_37_6, rn_37_9, rn_37_10, rn_37_13, rn_37_14, rn_37_15, rn_37_16, rn_37_19, s_aload_n_0, s_bipush_102, s_ivv, am_ivq_e, am_cvq_e, am_po_s, am_po_n, am_sl_n, am_sl_i, am_sl_r, am_sl_l, ml_4_25, cq_39, s_if1_eq, jm_6_7, s_iconst_3, s_goto, jm_10_9, s_iconst_0, s_iconst_2, ml_4_46, cq_38, s_irt, am_irq_1, am_irq_2, Int.le_refl, am_c3, am_c4, am_c6, am_c7, am_c8, am_c9, am_c27, am_c60, am_c240, am_c418, am_c3500, am_up_s, am_up_n, am_uu, ne_eq, Nat.reduceAdd, Int.reduceAdd, Int.reduceNeg, Int.reduceLE, Int.reduceToNat, true_and, and_true, List.length_cons, List.length_nil, Nat.reduceLeDiff, Nat.zero_add, Nat.add_zero, Nat.le_refl, true_or, or_true, reduceCtorEq, false_implies, implies_true, true_implies, not_true_eq_false, not_false_eq_true, eq_self, Int.zero_add, Int.reduceEq, Nat.reduceEqDiff]
      exact k1 v a (by unfold pe; rw [if_neg q]; exact e)
    · refine am_run 400 ?_; simp (disch := omega) only [ow_37, rt_37, rn_37_0, rn_37_1, rn_37_3, rn_37_6, rn_37_9, rn_37_10, rn_37_13, rn_37_14, rn_37_15, rn_37_16, rn_37_19, s_aload_n_0, s_bipush_102, s_ivv, am_ivq_e, am_cvq_e, am_po_s, am_po_n, am_sl_n, am_sl_i, am_sl_r, am_sl_l, ml_4_25, cq_39, s_if1_eq, jm_6_7, s_iconst_3, s_goto, jm_10_9, s_iconst_0, s_iconst_2, ml_4_46, cq_38, s_irt, am_irq_1, am_irq_2, Int.le_refl, am_c3, am_c4, am_c6, am_c7, am_c8, am_c9, am_c27, am_c60, am_c240, am_c418, am_c3500, am_up_s, am_up_n, am_uu, ne_eq, Nat.reduceAdd, Int.reduceAdd, Int.reduceNeg, Int.reduceLE, Int.reduceToNat, true_and, and_true, List.length_cons, List.length_nil, Nat.reduceLeDiff, Nat.zero_add, Nat.add_zero, Nat.le_refl, true_or, or_true, reduceCtorEq, false_implies, implies_true, true_implies, not_true_eq_false, not_false_eq_true, eq_self, Int.zero_add, Int.reduceEq, Nat.reduceEqDiff]
      exact k0 (by unfold pe; rw [if_neg q]; exact e)
theorem pd_le {c : Nat → Int} {len x a : Nat} {lo hi : Int} {o : Option Int} (h : pd c len lo hi x = (o, a)) (hx : x ≤ len) : a ≤ len := by
  unfold pd at h
  split at h <;> cases h <;> omega
theorem pd_in {c : Nat → Int} {len x a : Nat} {lo hi v : Int} (h : pd c len lo hi x = (some v, a)) : lo ≤ v ∧ v ≤ hi := by
  unfold pd at h
  split at h <;> cases h
  omega
theorem pe_le {c : Nat → Int} {len x a : Nat} {o : Option Int} (h : pe c len x = (o, a)) (hx : x ≤ len) : a ≤ len := by
  unfold pe at h
  split at h
  · cases h; omega
  · exact pd_le h hx
theorem pe_in {c : Nat → Int} {len x a : Nat} {v : Int} (h : pe c len x = (some v, a)) : 0 ≤ v ∧ v ≤ 3 := by
  unfold pe at h
  split at h
  · cases h; omega
  · have := pd_in h; omega
theorem pe_none {c : Nat → Int} {len x a : Nat} (h : pe c len x = (none, a)) : a = x := by
  unfold pe pd at h
  split at h
  · cases h
  · split at h <;> cases h; rfl
/-- the parts of a twig: where they stand -/
theorem lp_readParts {f q v : Nat} {a1 a2 a3 a4 : am_V} (hv : v < 3) (o1 : p < f) (o2 : cc < f) (o3 : f < q) (o4 : q < r) {h0 : am_H} {x0 : Nat} {pt0 : List Int} (hl0 : pt0.length = 9) (hR0 : RDb h0 r p cc s len cells) (hh0 : h0 f = oC 0 [a1, a2, a3, a4, rV q])
    (k1 : ∀ l a pt, pb (cF cells s) len 3 x0 = (some l, a) → a ≤ len → pt.length = 9 → (∀ u, u < 3 → pt.getD (3 * v + u) 0 = l.getD u 0) → (∀ u, u < 3 → 0 ≤ l.getD u 0 ∧ l.getD u 0 ≤ 3) → (∀ j, j < 3 * v ∨ 3 * v + 3 ≤ j → pt.getD j 0 = pt0.getD j 0) → K (some (iV 1)) n (am_up (am_up h0 q (aC pt)) r (rdC p s len a)))
    (k0 : ∀ a pt, pb (cF cells s) len 3 x0 = (none, a) → pt.length = 9 → K (some (iV 0)) n (am_up (am_up h0 q (aC pt)) r (rdC p s len a))) :
    ∀ (k i : Nat) (pt l : List Int) (x : Nat), i + k = 3 → x ≤ len → pt.length = 9 → l.length = i → (∀ u, u < i → pt.getD (3 * v + u) 0 = l.getD u 0) → (∀ u, u < i → 0 ≤ l.getD u 0 ∧ l.getD u 0 ≤ 3) → (∀ j, j < 3 * v ∨ 3 * v + 3 ≤ j → pt.getD j 0 = pt0.getD j 0) → (∀ l2 a, pb (cF cells s) len k x = (l2, a) → pb (cF cells s) len 3 x0 = (l2.map (fun z => l ++ z), a)) →
      am_W 36 n (am_M (d + 4)) K 2 [some (rV r), some (rV f), some (iV v), some (iV i), none] [] n (am_up (am_up h0 q (aC pt)) r (rdC p s len x)) := by
  intro k
  induction k with
  | zero =>
    intro i pt l x hi hx hl hli hpt hb hot hpb
    have : i = 3 := by omega
    subst this
    refine am_runH 400 ?_; simp (disch := omega) only [ow_36, rt_36, rn_36_0, rn_36_1, rn_36_2, rf_36_2, rn_36_3, rn_36_4, rn_36_7, rn_36_8, rn_36_11, rn_36_13, rn_36_15, rn_36_16, rn_36_19, rn_36_20, rn_36_21, rn_36_22, rn_36_25, rn_36_26, rn_36_27, rn_36_28, rn_36_29, rn_36_30, rn_36_32, rn_36_33, rn_36_36, rn_36_39, rn_36_40, s_iconst_0, s_istore_n_3, am_kil_n, am_kil_i, am_kil_r, am_kil_l, s_iload_n_3, s_iconst_3, s_if2_ge, jm_4_35, s_aload_n_0, s_ivv, am_ivq_e, am_cvq_e, am_po_s, am_po_n, am_sl_n, am_sl_i, am_sl_r, am_sl_l, ml_4_71, cq_37, s_istore_4, s_iload_4, s_iconst_m1, s_if2_ne, jm_16_5, s_irt, am_irq_1, am_irq_2, s_aload_n_1, s_gf, am_gfq_e, am_nth_0, am_nth_s, fl_4_78, s_iload_n_2, s_imul, s_iadd, s_iast, am_iwq_e, s_iinc_3, s_goto, jm_36_m34, s_iconst_1, Int.le_refl, am_c3, am_c4, am_c6, am_c7, am_c8, am_c9, am_c27, am_c60, am_c240, am_c418, am_c3500, am_up_s, am_up_n, am_uu, ne_eq, Nat.reduceAdd, Int.reduceAdd, Int.reduceNeg, Int.reduceLE, Int.reduceToNat, true_and, and_true, List.length_cons, List.length_nil, Nat.reduceLeDiff, Nat.zero_add, Nat.add_zero, Nat.le_refl, true_or, or_true, reduceCtorEq, false_implies, implies_true, true_implies, not_true_eq_false, not_false_eq_true, eq_self, Int.zero_add, Int.reduceEq, Nat.reduceEqDiff, Int.reduceLT]
    have h1 := hpb (some []) x rfl
    simp only [Option.map_some, List.append_nil] at h1
    exact k1 l x pt h1 hx hl hpt hb hot
  | succ k ih =>
    intro i pt l x hi hx hl hli hpt hb hot hpb
    have hR : RDb (am_up h0 q (aC pt)) r p cc s len cells := hR0.frame (am_up_n (by omega)) (am_up_n (by omega))
    refine am_runH 400 ?_; simp (disch := omega) only [ow_36, rt_36, rn_36_0, rn_36_1, rn_36_2, rf_36_2, rn_36_3, rn_36_4, rn_36_7, rn_36_8, rn_36_11, rn_36_13, rn_36_15, rn_36_16, rn_36_19, rn_36_20, rn_36_21, rn_36_22, rn_36_25, rn_36_26, rn_36_27, rn_36_28, rn_36_29, rn_36_30, rn_36_32, rn_36_33, rn_36_36, rn_36_39, rn_36_40, s_iconst_0, s_istore_n_3, am_kil_n, am_kil_i, am_kil_r, am_kil_l, s_iload_n_3, s_iconst_3, s_if2_ge, jm_4_35, s_aload_n_0, s_ivv, am_ivq_e, am_cvq_e, am_po_s, am_po_n, am_sl_n, am_sl_i, am_sl_r, am_sl_l, ml_4_71, cq_37, s_istore_4, s_iload_4, s_iconst_m1, s_if2_ne, jm_16_5, s_irt, am_irq_1, am_irq_2, s_aload_n_1, s_gf, am_gfq_e, am_nth_0, am_nth_s, fl_4_78, s_iload_n_2, s_imul, s_iadd, s_iast, am_iwq_e, s_iinc_3, s_goto, jm_36_m34, s_iconst_1, Int.le_refl, am_c3, am_c4, am_c6, am_c7, am_c8, am_c9, am_c27, am_c60, am_c240, am_c418, am_c3500, am_up_s, am_up_n, am_uu, ne_eq, Nat.reduceAdd, Int.reduceAdd, Int.reduceNeg, Int.reduceLE, Int.reduceToNat, true_and, and_true, List.length_cons, List.length_nil, Nat.reduceLeDiff, Nat.zero_add, Nat.add_zero, Nat.le_refl, true_or, or_true, reduceCtorEq, false_implies, implies_true, true_implies, not_true_eq_false, not_false_eq_true, eq_self, Int.zero_add, Int.reduceEq, Nat.reduceEqDiff]
    refine ⟨fun z => by omega, fun z => ?_⟩
    refine sp_readEnd hR hx (fun e a he => ?_) (fun he => ?_)
    · have hin := pe_in he
      refine am_run 400 ?_; simp (disch := omega) only [ow_36, rt_36, rn_36_0, rn_36_1, rn_36_2, rf_36_2, rn_36_3, rn_36_4, rn_36_7, rn_36_8, rn_36_11, rn_36_13, rn_36_15, rn_36_16, rn_36_19, rn_36_20, rn_36_21, rn_36_22, rn_36_25, rn_36_26, rn_36_27, rn_36_28, rn_36_29, rn_36_30, rn_36_32, rn_36_33, rn_36_36, rn_36_39, rn_36_40, s_iconst_0, s_istore_n_3, am_kil_n, am_kil_i, am_kil_r, am_kil_l, s_iload_n_3, s_iconst_3, s_if2_ge, jm_4_35, s_aload_n_0, s_ivv, am_ivq_e, am_cvq_e, am_po_s, am_po_n, am_sl_n, am_sl_i, am_sl_r, am_sl_l, ml_4_71, cq_37, s_istore_4, s_iload_4, s_iconst_m1, s_if2_ne, jm_16_5, s_irt, am_irq_1, am_irq_2, s_aload_n_1, s_gf, am_gfq_e, am_nth_0, am_nth_s, fl_4_78, s_iload_n_2, s_imul, s_iadd, s_iast, am_iwq_e, s_iinc_3, s_goto, jm_36_m34, s_iconst_1, Int.le_refl, am_c3, am_c4, am_c6, am_c7, am_c8, am_c9, am_c27, am_c60, am_c240, am_c418, am_c3500, am_up_s, am_up_n, am_uu, ne_eq, Nat.reduceAdd, Int.reduceAdd, Int.reduceNeg, Int.reduceLE, Int.reduceToNat, true_and, and_true, List.length_cons, List.length_nil, Nat.reduceLeDiff, Nat.zero_add, Nat.add_zero, Nat.le_refl, true_or, or_true, reduceCtorEq, false_implies, implies_true, true_implies, not_true_eq_false, not_false_eq_true, eq_self, Int.zero_add, Int.reduceEq, Nat.reduceEqDiff, hh0, hl, wr_ok, am_i1]
      refine ⟨fun z => ⟨by omega, by omega, ?_⟩, fun z => by omega⟩
      rw [am_up_cm (by omega), am_uu, show (3 * (v : Int) + i).toNat = 3 * v + i by omega]
      refine am_W.less (al := [some (rV r), some (rV f), some (iV v), some (iV ((i + 1 : Nat) : Int)), none]) ?_ ?_
      · exact ⟨rfl, rfl, rfl, rfl, trivial⟩
      refine ih (i + 1) (pt.set (3 * v + i) e) (l ++ [e]) a (by omega) (pe_le he hx) (by simp; exact hl) (by simp; exact hli) (fun u hu => ?_) (fun u hu => ?_) (fun j hj => by rw [gd_sn (by omega)]; exact hot j hj) (fun l2 b hb2 => ?_)
      · by_cases z2 : u = i
        · subst z2
          rw [gd_ss (by omega), List.getD_eq_getElem?_getD, List.getElem?_append_right (by omega)]
          simp [hli]
        · rw [gd_sn (by omega), hpt u (by omega), List.getD_eq_getElem?_getD, List.getD_eq_getElem?_getD, List.getElem?_append_left (by omega)]
      · by_cases z2 : u = i
        · subst z2
          rw [List.getD_eq_getElem?_getD, List.getElem?_append_right (by omega)]
          simp [hli]
          exact hin
        · rw [List.getD_eq_getElem?_getD, List.getElem?_append_left (by omega), ← List.getD_eq_getElem?_getD]
          exact hb u (by omega)
      · have h1 := hpb (l2.map (fun z => e :: z)) b (by
          unfold pb
          rw [he]
          dsimp only
          rw [hb2]
          cases l2 <;> rfl)
        rw [h1]
        cases l2 <;> simp
    · refine am_run 400 ?_; simp (disch := omega) only [ow_36, rt_36, rn_36_0, rn_36_1, rn_36_2, rf_36_2, rn_36_3, rn_36_4, rn_36_7, rn_36_8, rn_36_11, rn_36_13, rn_36_15, rn_36_16, rn_36_19, rn_36_20, rn_36_21, rn_36_22, rn_36_25, rn_36_26, rn_36_27, rn_36_28, rn_36_29, rn_36_30, rn_36_32, rn_36_33, rn_36_36, rn_36_39, rn_36_40, s_iconst_0, s_istore_n_3, am_kil_n, am_kil_i, am_kil_r, am_kil_l, s_iload_n_3, s_iconst_3, s_if2_ge, jm_4_35, s_aload_n_0, s_ivv, am_ivq_e, am_cvq_e, am_po_s, am_po_n, am_sl_n, am_sl_i, am_sl_r, am_sl_l, ml_4_71, cq_37, s_istore_4, s_iload_4, s_iconst_m1, s_if2_ne, jm_16_5, s_irt, am_irq_1, am_irq_2, s_aload_n_1, s_gf, am_gfq_e, am_nth_0, am_nth_s, fl_4_78, s_iload_n_2, s_imul, s_iadd, s_iast, am_iwq_e, s_iinc_3, s_goto, jm_36_m34, s_iconst_1, Int.le_refl, am_c3, am_c4, am_c6, am_c7, am_c8, am_c9, am_c27, am_c60, am_c240, am_c418, am_c3500, am_up_s, am_up_n, am_uu, ne_eq, Nat.reduceAdd, Int.reduceAdd, Int.reduceNeg, Int.reduceLE, Int.reduceToNat, true_and, and_true, List.length_cons, List.length_nil, Nat.reduceLeDiff, Nat.zero_add, Nat.add_zero, Nat.le_refl, true_or, or_true, reduceCtorEq, false_implies, implies_true, true_implies, not_true_eq_false, not_false_eq_true, eq_self, Int.zero_add, Int.reduceEq, Nat.reduceEqDiff]
      refine k0 x pt ?_ hl
      have h1 := hpb none x (by unfold pb; rw [he])
      exact h1
theorem sp_readParts {f q v : Nat} {a1 a2 a3 a4 : am_V} {pt0 : List Int} (hv : v < 3) (o1 : p < f) (o2 : cc < f) (o3 : f < q) (o4 : q < r) (hl0 : pt0.length = 9) (hR0 : RDb h r p cc s len cells) (hh0 : h f = oC 0 [a1, a2, a3, a4, rV q]) (hh1 : h q = aC pt0) (hx : x ≤ len)
    (k1 : ∀ l a pt, pb (cF cells s) len 3 x = (some l, a) → a ≤ len → pt.length = 9 → (∀ u, u < 3 → pt.getD (3 * v + u) 0 = l.getD u 0) → (∀ u, u < 3 → 0 ≤ l.getD u 0 ∧ l.getD u 0 ≤ 3) → (∀ j, j < 3 * v ∨ 3 * v + 3 ≤ j → pt.getD j 0 = pt0.getD j 0) → K (some (iV 1)) n (am_up (am_up h q (aC pt)) r (rdC p s len a)))
    (k0 : ∀ a pt, pb (cF cells s) len 3 x = (none, a) → pt.length = 9 → K (some (iV 0)) n (am_up (am_up h q (aC pt)) r (rdC p s len a))) :
    am_M (d + 5) 36 [rV r, rV f, iV v] n (am_up h r (rdC p s len x)) K := by
  refine en_36 (am_run 400 ?_); simp (disch := omega) only [ow_36, rt_36, rn_36_0, rn_36_1, rn_36_2, rf_36_2, rn_36_3, rn_36_4, rn_36_7, rn_36_8, rn_36_11, rn_36_13, rn_36_15, rn_36_16, rn_36_19, rn_36_20, rn_36_21, rn_36_22, rn_36_25, rn_36_26, rn_36_27, rn_36_28, rn_36_29, rn_36_30, rn_36_32, rn_36_33, rn_36_36, rn_36_39, rn_36_40, s_iconst_0, s_istore_n_3, am_kil_n, am_kil_i, am_kil_r, am_kil_l, s_iload_n_3, s_iconst_3, s_if2_ge, jm_4_35, s_aload_n_0, s_ivv, am_ivq_e, am_cvq_e, am_po_s, am_po_n, am_sl_n, am_sl_i, am_sl_r, am_sl_l, ml_4_71, cq_37, s_istore_4, s_iload_4, s_iconst_m1, s_if2_ne, jm_16_5, s_irt, am_irq_1, am_irq_2, s_aload_n_1, s_gf, am_gfq_e, am_nth_0, am_nth_s, fl_4_78, s_iload_n_2, s_imul, s_iadd, s_iast, am_iwq_e, s_iinc_3, s_goto, jm_36_m34, s_iconst_1, Int.le_refl, am_c3, am_c4, am_c6, am_c7, am_c8, am_c9, am_c27, am_c60, am_c240, am_c418, am_c3500, am_up_s, am_up_n, am_uu, ne_eq, Nat.reduceAdd, Int.reduceAdd, Int.reduceNeg, Int.reduceLE, Int.reduceToNat, true_and, and_true, List.length_cons, List.length_nil, Nat.reduceLeDiff, Nat.zero_add, Nat.add_zero, Nat.le_refl, true_or, or_true, reduceCtorEq, false_implies, implies_true, true_implies, not_true_eq_false, not_false_eq_true, eq_self, Int.zero_add, Int.reduceEq, Nat.reduceEqDiff]
  have h1 := lp_readParts (n := n) (K := K) (d := d) hv o1 o2 o3 o4 hl0 hR0 hh0 k1 k0 3 0 pt0 [] x rfl hx hl0 rfl (fun u hu => by omega) (fun u hu => by omega) (fun _ _ => rfl) (fun l2 a e => by rw [e]; cases l2 <;> rfl)
  rw [am_up_self hh1] at h1
  exact h1
end
