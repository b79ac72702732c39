/-! MODEL 16: kinds, branches -/
theorem or_0 {x : Int} (h : inR x) : am_or x 0 = x := bt_ext (or_in _ _) h (fun i hi => by rw [bt_or, bt_0 ⟨i, hi⟩, Bool.or_false])
theorem accB_in {tri : Int → Bool} : ∀ v, inR (accB tri v)
  | 0 => by unfold accB inR; omega
  | v + 1 => by
    unfold accB b1
    split
    · exact or_in _ _
    · exact accB_in v
section
variable {d n : Nat} {h : am_H} {K : am_K} {P : PS}
theorem lp_areSo {fns2 : List FnT} {ft tr fc : Int} (pv : PV P) (hW : MW h fns2 P.tms P.gs) (wf2 : WF fns2 P.tms) (mq : MQ2 h P.rd)
    (k1 : areR fns2 P.tms P.gs P.rd = true → ∀ h' pt rf st an vs lp wa ws wt wv wl is lk rw sp, FrA h h' → h' 58 = mO ft tr fc P.tms.length pt rf st an vs lp wa ws wt wv wl P.rd.length → AR h' is lk rw sp → K (some (iV 1)) n h') (k0 : areR fns2 P.tms P.gs P.rd = false → ∀ h' pt rf st an vs lp wa ws wt wv wl is lk rw sp, FrA h h' → h' 58 = mO ft tr fc P.tms.length pt rf st an vs lp wa ws wt wv wl P.rd.length → AR h' is lk rw sp → K (some (iV 0)) n h') :
    ∀ (kk j : Nat) (h' : am_H) (pt rf st an vs lp wa ws wt wv wl : Int) (is lk rw sp : List Int), j + kk = P.rd.length → FrA h h' → h' 58 = mO ft tr fc P.tms.length pt rf st an vs lp wa ws wt wv wl P.rd.length → AR h' is lk rw sp → (∀ i, i < j → okR fns2 P.tms P.gs (P.rd.getD i rd0) = true) → am_W 145 n (am_M (d + 5)) K 2 [some (rV 58), some (iV j)] [] n h' := by
  obtain ⟨a, b, m1, m2, x1, x2, hq⟩ := id mq
  have l8 := pv.lr
  intro kk
  induction kk with
  | zero =>
    intro j h' pt rf st an vs lp wa ws wt wv wl is lk rw sp hj f ho ar hh
    obtain rfl : j = P.rd.length := by omega
    refine am_runH 400 ?_; simp (disch := omega) only [ow_145, rt_145, rn_145_0, rn_145_1, rn_145_2, rf_145_2, rn_145_3, rn_145_4, rn_145_7, rn_145_10, rn_145_11, rn_145_12, rn_145_15, rn_145_16, rn_145_17, rn_145_19, rn_145_22, rn_145_23, rn_145_26, rn_145_27, rn_145_30, rn_145_31, rn_145_32, rn_145_35, rn_145_36, rn_145_37, rn_145_40, rn_145_43, rn_145_44, s_iconst_0, s_istore_n_1, am_kil_n, am_kil_i, am_kil_r, am_kil_l, s_iload_n_1, s_aload_n_0, s_gf, am_gfq_e, am_nth_0, am_nth_s, fl_7_125, s_if2_ge, jm_7_36, fl_7_79, s_iald, am_iaq_e, s_bipush_m9, s_ivv, am_ivq_e, am_cvq_e, am_po_s, am_po_n, am_sl_n, am_sl_i, am_sl_r, am_sl_l, ml_7_212, cq_134, fl_7_182, fl_7_82, s_if2_eq, jm_32_5, s_irt, am_irq_1, am_irq_2, s_iinc_1, s_goto, jm_40_m38, s_iconst_1, Int.le_refl, am_c3, am_c4, am_c6, am_c7, am_c8, am_c9, am_c27, am_c60, am_c240, am_c418, am_c3500, am_up_s, am_up_n, am_uu, ne_eq, Nat.reduceAdd, Int.reduceAdd, Int.reduceNeg, Int.reduceLE, Int.reduceToNat, true_and, and_true, List.length_cons, List.length_nil, Nat.reduceLeDiff, Nat.zero_add, Nat.add_zero, Nat.le_refl, true_or, or_true, reduceCtorEq, false_implies, implies_true, true_implies, not_true_eq_false, not_false_eq_true, eq_self, Int.zero_add, Int.reduceEq, Nat.reduceEqDiff, ho]
    refine k1 ?_ h' pt rf st an vs lp wa ws wt wv wl is lk rw sp f ho ar
    unfold areR
    rw [List.all_eq_true]
    intro x hx
    obtain ⟨i, hi, rfl⟩ := List.getElem_of_mem hx
    have := hh i hi
    rw [gd_some (List.getElem?_eq_getElem hi)] at this
    exact this
  | succ kk ih =>
    intro j h' pt rf st an vs lp wa ws wt wv wl is lk rw sp hj f ho ar hh
    have ra := pv.rt j (by omega)
    obtain ⟨ea, eb⟩ := hq j (by omega)
    obtain ⟨tn, etn⟩ : ∃ tn : Nat, (P.rd.getD j rd0).1 = tn := ⟨(P.rd.getD j rd0).1.toNat, by omega⟩
    rw [etn] at ea ra
    have m1' : h' 82 = aC a := by rw [f _ (by omega) (by omega)]; exact m1
    refine am_runH 400 ?_; simp (disch := omega) only [ow_145, rt_145, rn_145_0, rn_145_1, rn_145_2, rf_145_2, rn_145_3, rn_145_4, rn_145_7, rn_145_10, rn_145_11, rn_145_12, rn_145_15, rn_145_16, rn_145_17, rn_145_19, rn_145_22, rn_145_23, rn_145_26, rn_145_27, rn_145_30, rn_145_31, rn_145_32, rn_145_35, rn_145_36, rn_145_37, rn_145_40, rn_145_43, rn_145_44, s_iconst_0, s_istore_n_1, am_kil_n, am_kil_i, am_kil_r, am_kil_l, s_iload_n_1, s_aload_n_0, s_gf, am_gfq_e, am_nth_0, am_nth_s, fl_7_125, s_if2_ge, jm_7_36, fl_7_79, s_iald, am_iaq_e, s_bipush_m9, s_ivv, am_ivq_e, am_cvq_e, am_po_s, am_po_n, am_sl_n, am_sl_i, am_sl_r, am_sl_l, ml_7_212, cq_134, fl_7_182, fl_7_82, s_if2_eq, jm_32_5, s_irt, am_irq_1, am_irq_2, s_iinc_1, s_goto, jm_40_m38, s_iconst_1, Int.le_refl, am_c3, am_c4, am_c6, am_c7, am_c8, am_c9, am_c27, am_c60, am_c240, am_c418, am_c3500, am_up_s, am_up_n, am_uu, ne_eq, Nat.reduceAdd, Int.reduceAdd, Int.reduceNeg, Int.reduceLE, Int.reduceToNat, true_and, and_true, List.length_cons, List.length_nil, Nat.reduceLeDiff, Nat.zero_add, Nat.add_zero, Nat.le_refl, true_or, or_true, reduceCtorEq, false_implies, implies_true, true_implies, not_true_eq_false, not_false_eq_true, eq_self, Int.zero_add, Int.reduceEq, Nat.reduceEqDiff, ho, m1', x1, ea, Int.toNat_natCast]
    refine ⟨fun q => by omega, fun _ => ⟨by omega, ?_⟩⟩
    have hW' : MW h' fns2 P.tms P.gs := hW.frame (fun q _ _ => f q (by omega) (by omega))
    refine sp_findAnswers ho hW' wf2 (by omega) pv.gs ar (fun h1 is1 lk1 rw1 sp1 ws1 wt1 wv1 wl1 f1 ho1 ar1 _ => ?_)
    have m2' : h1 83 = aC b := by rw [f1 _ (by omega) (by omega), f _ (by omega) (by omega)]; exact m2
    have eR : okR fns2 P.tms P.gs (P.rd.getD j rd0) = decide (fo (fLp fns2 P.tms (evS fns2 P.tms tn)) (-9) (row1 fns2 P.tms P.gs tn) (row1 fns2 P.tms P.gs tn).length = (P.rd.getD j rd0).2) := by
      unfold okR askR
      rw [etn, Int.toNat_natCast, if_neg (by decide), if_neg (by decide), if_neg (by decide)]
    refine am_run 400 ?_; simp (disch := omega) only [ow_145, rt_145, rn_145_0, rn_145_1, rn_145_2, rf_145_2, rn_145_3, rn_145_4, rn_145_7, rn_145_10, rn_145_11, rn_145_12, rn_145_15, rn_145_16, rn_145_17, rn_145_19, rn_145_22, rn_145_23, rn_145_26, rn_145_27, rn_145_30, rn_145_31, rn_145_32, rn_145_35, rn_145_36, rn_145_37, rn_145_40, rn_145_43, rn_145_44, s_iconst_0, s_istore_n_1, am_kil_n, am_kil_i, am_kil_r, am_kil_l, s_iload_n_1, s_aload_n_0, s_gf, am_gfq_e, am_nth_0, am_nth_s, fl_7_125, s_if2_ge, jm_7_36, fl_7_79, s_iald, am_iaq_e, s_bipush_m9, s_ivv, am_ivq_e, am_cvq_e, am_po_s, am_po_n, am_sl_n, am_sl_i, am_sl_r, am_sl_l, ml_7_212, cq_134, fl_7_182, fl_7_82, s_if2_eq, jm_32_5, s_irt, am_irq_1, am_irq_2, s_iinc_1, s_goto, jm_40_m38, s_iconst_1, Int.le_refl, am_c3, am_c4, am_c6, am_c7, am_c8, am_c9, am_c27, am_c60, am_c240, am_c418, am_c3500, am_up_s, am_up_n, am_uu, ne_eq, Nat.reduceAdd, Int.reduceAdd, Int.reduceNeg, Int.reduceLE, Int.reduceToNat, true_and, and_true, List.length_cons, List.length_nil, Nat.reduceLeDiff, Nat.zero_add, Nat.add_zero, Nat.le_refl, true_or, or_true, reduceCtorEq, false_implies, implies_true, true_implies, not_true_eq_false, not_false_eq_true, eq_self, Int.zero_add, Int.reduceEq, Nat.reduceEqDiff, ho1, m2', x2, eb, Int.toNat_natCast, am_i1]
    refine ⟨by omega, fun q => ?_, fun q => ?_⟩
    · refine ih (j + 1) h1 _ _ _ _ _ _ _ _ _ _ _ is1 lk1 rw1 sp1 (by omega) (f.tr f1) ho1 ar1 (fun i hi => ?_)
      by_cases z : i = j
      · rw [z, eR]; exact decide_eq_true q
      · exact hh i (by omega)
    · refine k0 ?_ h1 _ _ _ _ _ _ _ _ _ _ _ is1 lk1 rw1 sp1 (f.tr f1) ho1 ar1
      rw [Bool.eq_false_iff]
      intro z
      unfold areR at z
      rw [List.all_eq_true] at z
      have hj2 : j < P.rd.length := by omega
      have := z _ (List.getElem_mem hj2)
      rw [gd_some (List.getElem?_eq_getElem hj2)] at eR q
      rw [eR] at this
      exact q (of_decide_eq_true this)
theorem sp_areSo {fns2 : List FnT} {ft tr fc pt rf st an vs lp wa ws wt wv wl : Int} {is lk rw sp : List Int} (pv : PV P) (hW : MW h fns2 P.tms P.gs) (wf2 : WF fns2 P.tms) (mq : MQ2 h P.rd) (ho : h 58 = mO ft tr fc P.tms.length pt rf st an vs lp wa ws wt wv wl P.rd.length) (ar : AR h is lk rw sp)
    (k1 : areR fns2 P.tms P.gs P.rd = true → ∀ h' pt rf st an vs lp wa ws wt wv wl is lk rw sp, FrA h h' → h' 58 = mO ft tr fc P.tms.length pt rf st an vs lp wa ws wt wv wl P.rd.length → AR h' is lk rw sp → K (some (iV 1)) n h') (k0 : areR fns2 P.tms P.gs P.rd = false → ∀ h' pt rf st an vs lp wa ws wt wv wl is lk rw sp, FrA h h' → h' 58 = mO ft tr fc P.tms.length pt rf st an vs lp wa ws wt wv wl P.rd.length → AR h' is lk rw sp → K (some (iV 0)) n h') : am_M (d + 6) 145 [rV 58] n h K := by
  refine en_145 (am_run 400 ?_); simp (disch := omega) only [ow_145, rt_145, rn_145_0, rn_145_1, rn_145_2, rf_145_2, rn_145_3, rn_145_4, rn_145_7, rn_145_10, rn_145_11, rn_145_12, rn_145_15, rn_145_16, rn_145_17, rn_145_19, rn_145_22, rn_145_23, rn_145_26, rn_145_27, rn_145_30, rn_145_31, rn_145_32, rn_145_35, rn_145_36, rn_145_37, rn_145_40, rn_145_43, rn_145_44, s_iconst_0, s_istore_n_1, am_kil_n, am_kil_i, am_kil_r, am_kil_l, s_iload_n_1, s_aload_n_0, s_gf, am_gfq_e, am_nth_0, am_nth_s, fl_7_125, s_if2_ge, jm_7_36, fl_7_79, s_iald, am_iaq_e, s_bipush_m9, s_ivv, am_ivq_e, am_cvq_e, am_po_s, am_po_n, am_sl_n, am_sl_i, am_sl_r, am_sl_l, ml_7_212, cq_134, fl_7_182, fl_7_82, s_if2_eq, jm_32_5, s_irt, am_irq_1, am_irq_2, s_iinc_1, s_goto, jm_40_m38, s_iconst_1, Int.le_refl, am_c3, am_c4, am_c6, am_c7, am_c8, am_c9, am_c27, am_c60, am_c240, am_c418, am_c3500, am_up_s, am_up_n, am_uu, ne_eq, Nat.reduceAdd, Int.reduceAdd, Int.reduceNeg, Int.reduceLE, Int.reduceToNat, true_and, and_true, List.length_cons, List.length_nil, Nat.reduceLeDiff, Nat.zero_add, Nat.add_zero, Nat.le_refl, true_or, or_true, reduceCtorEq, false_implies, implies_true, true_implies, not_true_eq_false, not_false_eq_true, eq_self, Int.zero_add, Int.reduceEq, Nat.reduceEqDiff]
  exact lp_areSo pv hW wf2 mq k1 k0 P.rd.length 0 h _ _ _ _ _ _ _ _ _ _ _ is lk rw sp (by omega) FrA.rf ho ar (fun i hi => by omega)
theorem MF.kind {fns : List FnT} {fn : Nat} {v : Int} {b : List Int} (a : MF h fns) (h62 : h 62 = aC b) (hf : fn < fns.length) (l3 : fns.length ≤ 3) : MF (am_up h 62 (aC (b.set fn v))) (fns.set fn (setK (fns.getD fn fn0) v)) := by
  obtain ⟨x1, x2, x3, x4, x5, a1, a2, a3, a4, a5, l1, l2, l3', l4, l5, hh⟩ := a
  obtain rfl : x1 = b := by
    have := a1.symm.trans h62
    simpa using this
  refine ⟨x1.set fn v, x2, x3, x4, x5, am_up_s, by rw [am_up_n (by omega)]; exact a2, by rw [am_up_n (by omega)]; exact a3, by rw [am_up_n (by omega)]; exact a4, by rw [am_up_n (by omega)]; exact a5, by simpa using l1, l2, l3', l4, l5, fun f hf2 => ?_⟩
  rw [List.length_set] at hf2
  obtain ⟨h1, h2, h3, h4⟩ := hh f hf2
  by_cases q : f = fn
  · subst q
    rw [gd_ss hf, gd_ss (by omega)]
    exact ⟨rfl, h2, h3, h4⟩
  · rw [gd_sn (fun z => q z.symm), gd_sn (fun z => q z.symm)]
    exact ⟨h1, h2, h3, h4⟩
theorem MF.brn {fns : List FnT} {fn : Nat} {v : Int} {b : List Int} (a : MF h fns) (h64 : h 64 = aC b) (hf : fn < fns.length) (l3 : fns.length ≤ 3) : MF (am_up h 64 (aC (b.set fn v))) (fns.set fn (setA (fns.getD fn fn0) v)) := by
  obtain ⟨x1, x2, x3, x4, x5, a1, a2, a3, a4, a5, l1, l2, l3', l4, l5, hh⟩ := a
  obtain rfl : x3 = b := by
    have := a3.symm.trans h64
    simpa using this
  refine ⟨x1, x2, x3.set fn v, x4, x5, by rw [am_up_n (by omega)]; exact a1, by rw [am_up_n (by omega)]; exact a2, am_up_s, by rw [am_up_n (by omega)]; exact a4, by rw [am_up_n (by omega)]; exact a5, l1, l2, by simpa using l3', l4, l5, fun f hf2 => ?_⟩
  rw [List.length_set] at hf2
  obtain ⟨h1, h2, h3, h4⟩ := hh f hf2
  by_cases q : f = fn
  · subst q
    rw [gd_ss hf, gd_ss (by omega)]
    exact ⟨h1, h2, rfl, h4⟩
  · rw [gd_sn (fun z => q z.symm), gd_sn (fun z => q z.symm)]
    exact ⟨h1, h2, h3, h4⟩
theorem lp_mkinds {fn : Nat} {was : Int} {a : List Int} (pv : PV P) (c : MR h P) (hf : fn < P.fns.length) (h0 : h 62 = aC a) (la : a.length = 3) (hwas : a.getD fn 0 = was) (k : ∀ h', MR h' P → FrM h h' → K (some (iV (accB (triK P fn) 3))) n h') :
    ∀ (kk v : Nat) (h' : am_H) (pt rf st an vs lp wa ws wt wv wl : Int) (a' is lk rw sp : List Int), v + kk = 3 → (∀ q, q ≠ 58 → q ≠ 62 → q < 77 ∨ 80 < q → h' q = h q) → h' 58 = mO P.ft P.tr P.fns.length P.tms.length pt rf st an vs lp wa ws wt wv wl P.rd.length → AR h' is lk rw sp → h' 62 = aC a' → a'.length = 3 → (∀ z : Int, a'.set fn z = a.set fn z) → am_W 146 n (am_M (d + 6)) K 22 [some (rV 58), some (iV fn), some (iV was), some (iV (accB (triK P fn) v)), some (iV v)] [] n h' := by
  have l3 := pv.lf
  have hn : P.fns ≠ [] := fun z => by rw [z] at hf; exact absurd hf (by simp)
  have hW := c.mw pv hn
  have hw := pv.wf.1 _ _ (gd_get fn0 hf)
  intro kk
  induction kk with
  | zero =>
    intro v h' pt rf st an vs lp wa ws wt wv wl a' is lk rw sp hv f ho ar h1 l1 es
    obtain rfl : v = 3 := by omega
    refine am_runH 400 ?_; simp (disch := omega) only [ow_146, rt_146, rn_146_0, rn_146_1, rn_146_2, rn_146_5, rn_146_8, rn_146_9, rn_146_10, rn_146_11, rn_146_14, rn_146_15, rn_146_16, rn_146_17, rn_146_18, rn_146_19, rn_146_20, rn_146_22, rf_146_22, rn_146_24, rn_146_25, rn_146_28, rn_146_29, rn_146_32, rn_146_33, rn_146_35, rn_146_36, rn_146_37, rn_146_38, rn_146_41, rn_146_44, rn_146_45, rn_146_47, rn_146_48, rn_146_51, rn_146_52, rn_146_53, rn_146_54, rn_146_57, rn_146_60, rn_146_61, rn_146_64, rn_146_65, rn_146_66, rn_146_67, rn_146_68, s_aload_n_0, s_iload_n_1, s_ivv, am_ivq_e, am_cvq_e, am_po_s, am_po_n, am_sl_n, am_sl_i, am_sl_r, am_sl_l, ml_7_142, cq_106, s_if1_ne, jm_5_5, s_iconst_m1, s_irt, am_irq_1, am_irq_2, s_gf, am_gfq_e, am_nth_0, am_nth_s, fl_7_19, s_iald, am_iaq_e, s_istore_n_2, am_kil_n, am_kil_i, am_kil_r, am_kil_l, s_iconst_0, s_istore_n_3, s_istore_4, s_iload_4, s_iconst_3, s_if2_ge, jm_25_35, s_iast, am_iwq_e, s_iload_n_3, ml_7_230, cq_145, s_if1_eq, jm_41_10, s_iconst_1, s_ishl, s_goto, jm_48_4, s_ior, s_iinc_4, jm_57_m35, s_iload_n_2, Int.le_refl, am_c3, am_c4, am_c6, am_c7, am_c8, am_c9, am_c27, am_c60, am_c240, am_c418, am_c3500, am_up_s, am_up_n, am_uu, ne_eq, Nat.reduceAdd, Int.reduceAdd, Int.reduceNeg, Int.reduceLE, Int.reduceToNat, true_and, and_true, List.length_cons, List.length_nil, Nat.reduceLeDiff, Nat.zero_add, Nat.add_zero, Nat.le_refl, true_or, or_true, reduceCtorEq, false_implies, implies_true, true_implies, not_true_eq_false, not_false_eq_true, eq_self, Int.zero_add, Int.reduceEq, Nat.reduceEqDiff, ho, h1, l1, Int.toNat_natCast]
    have e1 : a'.set fn was = a := by
      rw [es]
      refine gd_ext 0 (by simp) (fun i hi => ?_)
      by_cases z : i = fn
      · rw [z, gd_ss (by omega), hwas]
      · rw [gd_sn (by omega)]
    rw [e1]
    have fA : FrA h (am_up h' 62 (aC a)) := fun q q1 q2 => by
      by_cases z : q = 62
      · rw [z, am_up_s, h0]
      · rw [am_up_n z]; exact f q q1 z q2
    have fin := k _ (c.fra fA (by rw [am_up_n (by omega)]; exact ho) (ar.frame (fun q _ _ => am_up_n (by omega)))) fA.M
    first | exact ⟨by omega, fin⟩ | exact ⟨fun _ => ⟨by omega, fin⟩, fun z => absurd (by decide) z⟩
  | succ kk ih =>
    intro v h' pt rf st an vs lp wa ws wt wv wl a' is lk rw sp hv f ho ar h1 l1 es
    refine am_runH 400 ?_; simp (disch := omega) only [ow_146, rt_146, rn_146_0, rn_146_1, rn_146_2, rn_146_5, rn_146_8, rn_146_9, rn_146_10, rn_146_11, rn_146_14, rn_146_15, rn_146_16, rn_146_17, rn_146_18, rn_146_19, rn_146_20, rn_146_22, rf_146_22, rn_146_24, rn_146_25, rn_146_28, rn_146_29, rn_146_32, rn_146_33, rn_146_35, rn_146_36, rn_146_37, rn_146_38, rn_146_41, rn_146_44, rn_146_45, rn_146_47, rn_146_48, rn_146_51, rn_146_52, rn_146_53, rn_146_54, rn_146_57, rn_146_60, rn_146_61, rn_146_64, rn_146_65, rn_146_66, rn_146_67, rn_146_68, s_aload_n_0, s_iload_n_1, s_ivv, am_ivq_e, am_cvq_e, am_po_s, am_po_n, am_sl_n, am_sl_i, am_sl_r, am_sl_l, ml_7_142, cq_106, s_if1_ne, jm_5_5, s_iconst_m1, s_irt, am_irq_1, am_irq_2, s_gf, am_gfq_e, am_nth_0, am_nth_s, fl_7_19, s_iald, am_iaq_e, s_istore_n_2, am_kil_n, am_kil_i, am_kil_r, am_kil_l, s_iconst_0, s_istore_n_3, s_istore_4, s_iload_4, s_iconst_3, s_if2_ge, jm_25_35, s_iast, am_iwq_e, s_iload_n_3, ml_7_230, cq_145, s_if1_eq, jm_41_10, s_iconst_1, s_ishl, s_goto, jm_48_4, s_ior, s_iinc_4, jm_57_m35, s_iload_n_2, Int.le_refl, am_c3, am_c4, am_c6, am_c7, am_c8, am_c9, am_c27, am_c60, am_c240, am_c418, am_c3500, am_up_s, am_up_n, am_uu, ne_eq, Nat.reduceAdd, Int.reduceAdd, Int.reduceNeg, Int.reduceLE, Int.reduceToNat, true_and, and_true, List.length_cons, List.length_nil, Nat.reduceLeDiff, Nat.zero_add, Nat.add_zero, Nat.le_refl, true_or, or_true, reduceCtorEq, false_implies, implies_true, true_implies, not_true_eq_false, not_false_eq_true, eq_self, Int.zero_add, Int.reduceEq, Nat.reduceEqDiff, ho, h1, l1, Int.toNat_natCast]
    refine ⟨fun q => by omega, fun _ => ⟨by omega, ?_⟩⟩
    have hb : (am_up h' 62 (aC (a'.set fn v))) = am_up h' 62 (aC (a.set fn v)) := by rw [es]
    have f1 : ∀ q, q ≠ 58 → q ≠ 62 → q < 77 ∨ 80 < q → am_up h' 62 (aC (a'.set fn v)) q = h q := fun q q1 q2 q3 => by rw [am_up_n q2]; exact f q q1 q2 q3
    have mf : MF (am_up h' 62 (aC (a'.set fn v))) (P.fns.set fn (setK (P.fns.getD fn fn0) v)) := by
      refine (hW.1.kind (v := v) h0 hf l3).frame (fun q q1 q2 => ?_)
      by_cases z : q = 62
      · rw [z, am_up_s, am_up_s, es]
      · rw [am_up_n z, am_up_n z]; exact f q (by omega) z (by omega)
    have hW1 : MW (am_up h' 62 (aC (a'.set fn v))) (P.fns.set fn (setK (P.fns.getD fn fn0) v)) P.tms P.gs := ⟨mf, hW.2.1.frame (fun q q1 q2 => f1 q (by omega) (by omega) (by omega)), by rw [f1 _ (by omega) (by omega) (by omega)]; exact hW.2.2.1, hW.2.2.2.1, by rw [List.length_set]; exact l3, pv.lt⟩
    have wf2 : WF (P.fns.set fn (setK (P.fns.getD fn fn0) v)) P.tms := pv.wf.setF (i := fn) ⟨⟨by show (0 : Int) ≤ v; omega, by show (v : Int) ≤ 2; omega⟩, hw.2⟩
    have mq : MQ2 (am_up h' 62 (aC (a'.set fn v))) P.rd := c.2.2.2.2.2.2.2.2.frame (fun q q1 q2 => f1 q (by omega) (by omega) (by omega))
    have nx : ∀ h2 pt rf st an vs lp wa ws wt wv wl is lk rw sp, FrA (am_up h' 62 (aC (a'.set fn v))) h2 → h2 58 = mO P.ft P.tr P.fns.length P.tms.length pt rf st an vs lp wa ws wt wv wl P.rd.length → AR h2 is lk rw sp → am_W 146 n (am_M (d + 6)) K 22 [some (rV 58), some (iV fn), some (iV was), some (iV (accB (triK P fn) (v + 1))), some (iV ((v + 1 : Nat) : Int))] [] n h2 := by
      intro h2 pt rf st an vs lp wa ws wt wv wl is lk rw sp f2 ho2 ar2
      refine ih (v + 1) h2 pt rf st an vs lp wa ws wt wv wl (a'.set fn v) is lk rw sp (by omega) (fun q q1 q2 q3 => by rw [f2 q q1 q3]; exact f1 q q1 q2 q3) ho2 ar2 (by rw [f2 _ (by omega) (by omega), am_up_s]) (by simpa using l1) (fun z => ?_)
      rw [List.set_set, es]
    refine sp_areSo (fns2 := P.fns.set fn (setK (P.fns.getD fn fn0) v)) pv hW1 wf2 mq (by rw [am_up_n (by omega)]; exact ho) (ar.frame (fun q _ _ => am_up_n (by omega))) (fun z h2 pt2 rf2 st2 an2 vs2 lp2 wa2 ws2 wt2 wv2 wl2 is2 lk2 rw2 sp2 f2 ho2 ar2 => ?_) (fun z h2 pt2 rf2 st2 an2 vs2 lp2 wa2 ws2 wt2 wv2 wl2 is2 lk2 rw2 sp2 f2 ho2 ar2 => ?_)
    · have n2 := nx h2 _ _ _ _ _ _ _ _ _ _ _ is2 lk2 rw2 sp2 f2 ho2 ar2
      rw [show accB (triK P fn) (v + 1) = b1 (areR (P.fns.set fn (setK (P.fns.getD fn fn0) v)) P.tms P.gs P.rd) v (accB (triK P fn) v) from rfl, z] at n2
      refine am_run 400 ?_; simp (disch := omega) only [ow_146, rt_146, rn_146_0, rn_146_1, rn_146_2, rn_146_5, rn_146_8, rn_146_9, rn_146_10, rn_146_11, rn_146_14, rn_146_15, rn_146_16, rn_146_17, rn_146_18, rn_146_19, rn_146_20, rn_146_22, rf_146_22, rn_146_24, rn_146_25, rn_146_28, rn_146_29, rn_146_32, rn_146_33, rn_146_35, rn_146_36, rn_146_37, rn_146_38, rn_146_41, rn_146_44, rn_146_45, rn_146_47, rn_146_48, rn_146_51, rn_146_52, rn_146_53, rn_146_54, rn_146_57, rn_146_60, rn_146_61, rn_146_64, rn_146_65, rn_146_66, rn_146_67, rn_146_68, s_aload_n_0, s_iload_n_1, s_ivv, am_ivq_e, am_cvq_e, am_po_s, am_po_n, am_sl_n, am_sl_i, am_sl_r, am_sl_l, ml_7_142, cq_106, s_if1_ne, jm_5_5, s_iconst_m1, s_irt, am_irq_1, am_irq_2, s_gf, am_gfq_e, am_nth_0, am_nth_s, fl_7_19, s_iald, am_iaq_e, s_istore_n_2, am_kil_n, am_kil_i, am_kil_r, am_kil_l, s_iconst_0, s_istore_n_3, s_istore_4, s_iload_4, s_iconst_3, s_if2_ge, jm_25_35, s_iast, am_iwq_e, s_iload_n_3, ml_7_230, cq_145, s_if1_eq, jm_41_10, s_iconst_1, s_ishl, s_goto, jm_48_4, s_ior, s_iinc_4, jm_57_m35, s_iload_n_2, Int.le_refl, am_c3, am_c4, am_c6, am_c7, am_c8, am_c9, am_c27, am_c60, am_c240, am_c418, am_c3500, am_up_s, am_up_n, am_uu, ne_eq, Nat.reduceAdd, Int.reduceAdd, Int.reduceNeg, Int.reduceLE, Int.reduceToNat, true_and, and_true, List.length_cons, List.length_nil, Nat.reduceLeDiff, Nat.zero_add, Nat.add_zero, Nat.le_refl, true_or, or_true, reduceCtorEq, false_implies, implies_true, true_implies, not_true_eq_false, not_false_eq_true, eq_self, Int.zero_add, Int.reduceEq, Nat.reduceEqDiff, am_i1]
      exact n2
    · have n2 := nx h2 _ _ _ _ _ _ _ _ _ _ _ is2 lk2 rw2 sp2 f2 ho2 ar2
      rw [show accB (triK P fn) (v + 1) = b1 (areR (P.fns.set fn (setK (P.fns.getD fn fn0) v)) P.tms P.gs P.rd) v (accB (triK P fn) v) from rfl, z] at n2
      refine am_run 400 ?_; simp (disch := omega) only [ow_146, rt_146, rn_146_0, rn_146_1, rn_146_2, rn_146_5, rn_146_8, rn_146_9, rn_146_10, rn_146_11, rn_146_14, rn_146_15, rn_146_16, rn_146_17, rn_146_18, rn_146_19, rn_146_20, rn_146_22, rf_146_22, rn_146_24, rn_146_25, rn_146_28, rn_146_29, rn_146_32, rn_146_33, rn_146_35, rn_146_36, rn_146_37, rn_146_38, rn_146_41, rn_146_44, rn_146_45, rn_146_47, rn_146_48, rn_146_51, rn_146_52, rn_146_53, rn_146_54, rn_146_57, rn_146_60, rn_146_61, rn_146_64, rn_146_65, rn_146_66, rn_146_67, rn_146_68, s_aload_n_0, s_iload_n_1, s_ivv, am_ivq_e, am_cvq_e, am_po_s, am_po_n, am_sl_n, am_sl_i, am_sl_r, am_sl_l, ml_7_142, cq_106, s_if1_ne, jm_5_5, s_iconst_m1, s_irt, am_irq_1, am_irq_2, s_gf, am_gfq_e, am_nth_0, am_nth_s, fl_7_19, s_iald, am_iaq_e, s_istore_n_2, am_kil_n, am_kil_i, am_kil_r, am_kil_l, s_iconst_0, s_istore_n_3, s_istore_4, s_iload_4, s_iconst_3, s_if2_ge, jm_25_35, s_iast, am_iwq_e, s_iload_n_3, ml_7_230, cq_145, s_if1_eq, jm_41_10, s_iconst_1, s_ishl, s_goto, jm_48_4, s_ior, s_iinc_4, jm_57_m35, s_iload_n_2, Int.le_refl, am_c3, am_c4, am_c6, am_c7, am_c8, am_c9, am_c27, am_c60, am_c240, am_c418, am_c3500, am_up_s, am_up_n, am_uu, ne_eq, Nat.reduceAdd, Int.reduceAdd, Int.reduceNeg, Int.reduceLE, Int.reduceToNat, true_and, and_true, List.length_cons, List.length_nil, Nat.reduceLeDiff, Nat.zero_add, Nat.add_zero, Nat.le_refl, true_or, or_true, reduceCtorEq, false_implies, implies_true, true_implies, not_true_eq_false, not_false_eq_true, eq_self, Int.zero_add, Int.reduceEq, Nat.reduceEqDiff, am_i1, or_0 (accB_in v)]
      exact n2
theorem ml_kinds {f : Int} (pv : PV P) (c : MR h P) (k : ∀ h', MR h' P → FrM h h' → K (some (iV (op_kinds P f))) n h') : am_M (d + 7) 146 [rV 58, iV f] n h K := by
  obtain ⟨pt, rf, st, an, vs, lp, wa, ws, wt, wv, wl, ho⟩ := c.ob
  obtain ⟨is, lk, rw, sp, ar⟩ := c.ar
  obtain ⟨a, b, e, g, u, m1, m2, m3, m4, m5, x1, x2, x3, x4, x5, hf⟩ := id c.2.2.1
  have l3 := pv.lf
  unfold op_kinds at k
  refine en_146 (am_run 400 ?_); simp (disch := omega) only [ow_146, rt_146, rn_146_0, rn_146_1, rn_146_2, rn_146_5, rn_146_8, rn_146_9, rn_146_10, rn_146_11, rn_146_14, rn_146_15, rn_146_16, rn_146_17, rn_146_18, rn_146_19, rn_146_20, rn_146_22, rf_146_22, rn_146_24, rn_146_25, rn_146_28, rn_146_29, rn_146_32, rn_146_33, rn_146_35, rn_146_36, rn_146_37, rn_146_38, rn_146_41, rn_146_44, rn_146_45, rn_146_47, rn_146_48, rn_146_51, rn_146_52, rn_146_53, rn_146_54, rn_146_57, rn_146_60, rn_146_61, rn_146_64, rn_146_65, rn_146_66, rn_146_67, rn_146_68, s_aload_n_0, s_iload_n_1, s_ivv, am_ivq_e, am_cvq_e, am_po_s, am_po_n, am_sl_n, am_sl_i, am_sl_r, am_sl_l, ml_7_142, cq_106, s_if1_ne, jm_5_5, s_iconst_m1, s_irt, am_irq_1, am_irq_2, s_gf, am_gfq_e, am_nth_0, am_nth_s, fl_7_19, s_iald, am_iaq_e, s_istore_n_2, am_kil_n, am_kil_i, am_kil_r, am_kil_l, s_iconst_0, s_istore_n_3, s_istore_4, s_iload_4, s_iconst_3, s_if2_ge, jm_25_35, s_iast, am_iwq_e, s_iload_n_3, ml_7_230, cq_145, s_if1_eq, jm_41_10, s_iconst_1, s_ishl, s_goto, jm_48_4, s_ior, s_iinc_4, jm_57_m35, s_iload_n_2, Int.le_refl, am_c3, am_c4, am_c6, am_c7, am_c8, am_c9, am_c27, am_c60, am_c240, am_c418, am_c3500, am_up_s, am_up_n, am_uu, ne_eq, Nat.reduceAdd, Int.reduceAdd, Int.reduceNeg, Int.reduceLE, Int.reduceToNat, true_and, and_true, List.length_cons, List.length_nil, Nat.reduceLeDiff, Nat.zero_add, Nat.add_zero, Nat.le_refl, true_or, or_true, reduceCtorEq, false_implies, implies_true, true_implies, not_true_eq_false, not_false_eq_true, eq_self, Int.zero_add, Int.reduceEq, Nat.reduceEqDiff, ho]
  refine sp_isFunction ho (fun q => ?_) (fun q => ?_)
  · rw [if_neg (by omega)] at k
    obtain ⟨fn, rfl⟩ : ∃ fn : Nat, f = fn := ⟨f.toNat, by omega⟩
    rw [Int.toNat_natCast] at k
    refine am_run 400 ?_; simp (disch := omega) only [ow_146, rt_146, rn_146_0, rn_146_1, rn_146_2, rn_146_5, rn_146_8, rn_146_9, rn_146_10, rn_146_11, rn_146_14, rn_146_15, rn_146_16, rn_146_17, rn_146_18, rn_146_19, rn_146_20, rn_146_22, rf_146_22, rn_146_24, rn_146_25, rn_146_28, rn_146_29, rn_146_32, rn_146_33, rn_146_35, rn_146_36, rn_146_37, rn_146_38, rn_146_41, rn_146_44, rn_146_45, rn_146_47, rn_146_48, rn_146_51, rn_146_52, rn_146_53, rn_146_54, rn_146_57, rn_146_60, rn_146_61, rn_146_64, rn_146_65, rn_146_66, rn_146_67, rn_146_68, s_aload_n_0, s_iload_n_1, s_ivv, am_ivq_e, am_cvq_e, am_po_s, am_po_n, am_sl_n, am_sl_i, am_sl_r, am_sl_l, ml_7_142, cq_106, s_if1_ne, jm_5_5, s_iconst_m1, s_irt, am_irq_1, am_irq_2, s_gf, am_gfq_e, am_nth_0, am_nth_s, fl_7_19, s_iald, am_iaq_e, s_istore_n_2, am_kil_n, am_kil_i, am_kil_r, am_kil_l, s_iconst_0, s_istore_n_3, s_istore_4, s_iload_4, s_iconst_3, s_if2_ge, jm_25_35, s_iast, am_iwq_e, s_iload_n_3, ml_7_230, cq_145, s_if1_eq, jm_41_10, s_iconst_1, s_ishl, s_goto, jm_48_4, s_ior, s_iinc_4, jm_57_m35, s_iload_n_2, Int.le_refl, am_c3, am_c4, am_c6, am_c7, am_c8, am_c9, am_c27, am_c60, am_c240, am_c418, am_c3500, am_up_s, am_up_n, am_uu, ne_eq, Nat.reduceAdd, Int.reduceAdd, Int.reduceNeg, Int.reduceLE, Int.reduceToNat, true_and, and_true, List.length_cons, List.length_nil, Nat.reduceLeDiff, Nat.zero_add, Nat.add_zero, Nat.le_refl, true_or, or_true, reduceCtorEq, false_implies, implies_true, true_implies, not_true_eq_false, not_false_eq_true, eq_self, Int.zero_add, Int.reduceEq, Nat.reduceEqDiff, ho, m1, x1, Int.toNat_natCast]
    exact ⟨by omega, lp_mkinds pv c (by omega) m1 x1 rfl k 3 0 h _ _ _ _ _ _ _ _ _ _ _ a is lk rw sp (by omega) (fun q _ _ _ => rfl) ho ar m1 x1 (fun z => rfl)⟩
  · rw [if_pos q] at k
    refine am_run 400 ?_; simp (disch := omega) only [ow_146, rt_146, rn_146_0, rn_146_1, rn_146_2, rn_146_5, rn_146_8, rn_146_9, rn_146_10, rn_146_11, rn_146_14, rn_146_15, rn_146_16, rn_146_17, rn_146_18, rn_146_19, rn_146_20, rn_146_22, rf_146_22, rn_146_24, rn_146_25, rn_146_28, rn_146_29, rn_146_32, rn_146_33, rn_146_35, rn_146_36, rn_146_37, rn_146_38, rn_146_41, rn_146_44, rn_146_45, rn_146_47, rn_146_48, rn_146_51, rn_146_52, rn_146_53, rn_146_54, rn_146_57, rn_146_60, rn_146_61, rn_146_64, rn_146_65, rn_146_66, rn_146_67, rn_146_68, s_aload_n_0, s_iload_n_1, s_ivv, am_ivq_e, am_cvq_e, am_po_s, am_po_n, am_sl_n, am_sl_i, am_sl_r, am_sl_l, ml_7_142, cq_106, s_if1_ne, jm_5_5, s_iconst_m1, s_irt, am_irq_1, am_irq_2, s_gf, am_gfq_e, am_nth_0, am_nth_s, fl_7_19, s_iald, am_iaq_e, s_istore_n_2, am_kil_n, am_kil_i, am_kil_r, am_kil_l, s_iconst_0, s_istore_n_3, s_istore_4, s_iload_4, s_iconst_3, s_if2_ge, jm_25_35, s_iast, am_iwq_e, s_iload_n_3, ml_7_230, cq_145, s_if1_eq, jm_41_10, s_iconst_1, s_ishl, s_goto, jm_48_4, s_ior, s_iinc_4, jm_57_m35, s_iload_n_2, Int.le_refl, am_c3, am_c4, am_c6, am_c7, am_c8, am_c9, am_c27, am_c60, am_c240, am_c418, am_c3500, am_up_s, am_up_n, am_uu, ne_eq, Nat.reduceAdd, Int.reduceAdd, Int.reduceNeg, Int.reduceLE, Int.reduceToNat, true_and, and_true, List.length_cons, List.length_nil, Nat.reduceLeDiff, Nat.zero_add, Nat.add_zero, Nat.le_refl, true_or, or_true, reduceCtorEq, false_implies, implies_true, true_implies, not_true_eq_false, not_false_eq_true, eq_self, Int.zero_add, Int.reduceEq, Nat.reduceEqDiff]
    exact k h c FrM.rf
theorem lp_mbranches {fn : Nat} {was : Int} {a : List Int} (pv : PV P) (c : MR h P) (hf : fn < P.fns.length) (h0 : h 64 = aC a) (la : a.length = 3) (hwas : a.getD fn 0 = was) (k : ∀ h', MR h' P → FrM h h' → K (some (iV (accB (triA P fn) 2))) n h') :
    ∀ (kk v : Nat) (h' : am_H) (pt rf st an vs lp wa ws wt wv wl : Int) (a' is lk rw sp : List Int), v + kk = 2 → (∀ q, q ≠ 58 → q ≠ 64 → q < 77 ∨ 80 < q → h' q = h q) → h' 58 = mO P.ft P.tr P.fns.length P.tms.length pt rf st an vs lp wa ws wt wv wl P.rd.length → AR h' is lk rw sp → h' 64 = aC a' → a'.length = 3 → (∀ z : Int, a'.set fn z = a.set fn z) → am_W 147 n (am_M (d + 6)) K 22 [some (rV 58), some (iV fn), some (iV was), some (iV (accB (triA P fn) v)), some (iV v)] [] n h' := by
  have l3 := pv.lf
  have hn : P.fns ≠ [] := fun z => by rw [z] at hf; exact absurd hf (by simp)
  have hW := c.mw pv hn
  have hw := pv.wf.1 _ _ (gd_get fn0 hf)
  intro kk
  induction kk with
  | zero =>
    intro v h' pt rf st an vs lp wa ws wt wv wl a' is lk rw sp hv f ho ar h1 l1 es
    obtain rfl : v = 2 := by omega
    refine am_runH 400 ?_; simp (disch := omega) only [ow_147, rt_147, rn_147_0, rn_147_1, rn_147_2, rn_147_5, rn_147_8, rn_147_9, rn_147_10, rn_147_11, rn_147_14, rn_147_15, rn_147_16, rn_147_17, rn_147_18, rn_147_19, rn_147_20, rn_147_22, rf_147_22, rn_147_24, rn_147_25, rn_147_28, rn_147_29, rn_147_32, rn_147_33, rn_147_35, rn_147_36, rn_147_37, rn_147_38, rn_147_41, rn_147_44, rn_147_45, rn_147_47, rn_147_48, rn_147_51, rn_147_52, rn_147_53, rn_147_54, rn_147_57, rn_147_60, rn_147_61, rn_147_64, rn_147_65, rn_147_66, rn_147_67, rn_147_68, s_aload_n_0, s_iload_n_1, s_ivv, am_ivq_e, am_cvq_e, am_po_s, am_po_n, am_sl_n, am_sl_i, am_sl_r, am_sl_l, ml_7_142, cq_106, s_if1_ne, jm_5_5, s_iconst_m1, s_irt, am_irq_1, am_irq_2, s_gf, am_gfq_e, am_nth_0, am_nth_s, fl_7_25, s_iald, am_iaq_e, s_istore_n_2, am_kil_n, am_kil_i, am_kil_r, am_kil_l, s_iconst_0, s_istore_n_3, s_istore_4, s_iload_4, s_iconst_2, s_if2_ge, jm_25_35, s_iast, am_iwq_e, s_iload_n_3, ml_7_230, cq_145, s_if1_eq, jm_41_10, s_iconst_1, s_ishl, s_goto, jm_48_4, s_ior, s_iinc_4, jm_57_m35, s_iload_n_2, Int.le_refl, am_c3, am_c4, am_c6, am_c7, am_c8, am_c9, am_c27, am_c60, am_c240, am_c418, am_c3500, am_up_s, am_up_n, am_uu, ne_eq, Nat.reduceAdd, Int.reduceAdd, Int.reduceNeg, Int.reduceLE, Int.reduceToNat, true_and, and_true, List.length_cons, List.length_nil, Nat.reduceLeDiff, Nat.zero_add, Nat.add_zero, Nat.le_refl, true_or, or_true, reduceCtorEq, false_implies, implies_true, true_implies, not_true_eq_false, not_false_eq_true, eq_self, Int.zero_add, Int.reduceEq, Nat.reduceEqDiff, ho, h1, l1, Int.toNat_natCast]
    have e1 : a'.set fn was = a := by
      rw [es]
      refine gd_ext 0 (by simp) (fun i hi => ?_)
      by_cases z : i = fn
      · rw [z, gd_ss (by omega), hwas]
      · rw [gd_sn (by omega)]
    rw [e1]
    have fA : FrA h (am_up h' 64 (aC a)) := fun q q1 q2 => by
      by_cases z : q = 64
      · rw [z, am_up_s, h0]
      · rw [am_up_n z]; exact f q q1 z q2
    have fin := k _ (c.fra fA (by rw [am_up_n (by omega)]; exact ho) (ar.frame (fun q _ _ => am_up_n (by omega)))) fA.M
    first | exact ⟨by omega, fin⟩ | exact ⟨fun _ => ⟨by omega, fin⟩, fun z => absurd (by decide) z⟩
  | succ kk ih =>
    intro v h' pt rf st an vs lp wa ws wt wv wl a' is lk rw sp hv f ho ar h1 l1 es
    refine am_runH 400 ?_; simp (disch := omega) only [ow_147, rt_147, rn_147_0, rn_147_1, rn_147_2, rn_147_5, rn_147_8, rn_147_9, rn_147_10, rn_147_11, rn_147_14, rn_147_15, rn_147_16, rn_147_17, rn_147_18, rn_147_19, rn_147_20, rn_147_22, rf_147_22, rn_147_24, rn_147_25, rn_147_28, rn_147_29, rn_147_32, rn_147_33, rn_147_35, rn_147_36, rn_147_37, rn_147_38, rn_147_41, rn_147_44, rn_147_45, rn_147_47, rn_147_48, rn_147_51, rn_147_52, rn_147_53, rn_147_54, rn_147_57, rn_147_60, rn_147_61, rn_147_64, rn_147_65, rn_147_66, rn_147_67, rn_147_68, s_aload_n_0, s_iload_n_1, s_ivv, am_ivq_e, am_cvq_e, am_po_s, am_po_n, am_sl_n, am_sl_i, am_sl_r, am_sl_l, ml_7_142, cq_106, s_if1_ne, jm_5_5, s_iconst_m1, s_irt, am_irq_1, am_irq_2, s_gf, am_gfq_e, am_nth_0, am_nth_s, fl_7_25, s_iald, am_iaq_e, s_istore_n_2, am_kil_n, am_kil_i, am_kil_r, am_kil_l, s_iconst_0, s_istore_n_3, s_istore_4, s_iload_4, s_iconst_2, s_if2_ge, jm_25_35, s_iast, am_iwq_e, s_iload_n_3, ml_7_230, cq_145, s_if1_eq, jm_41_10, s_iconst_1, s_ishl, s_goto, jm_48_4, s_ior, s_iinc_4, jm_57_m35, s_iload_n_2, Int.le_refl, am_c3, am_c4, am_c6, am_c7, am_c8, am_c9, am_c27, am_c60, am_c240, am_c418, am_c3500, am_up_s, am_up_n, am_uu, ne_eq, Nat.reduceAdd, Int.reduceAdd, Int.reduceNeg, Int.reduceLE, Int.reduceToNat, true_and, and_true, List.length_cons, List.length_nil, Nat.reduceLeDiff, Nat.zero_add, Nat.add_zero, Nat.le_refl, true_or, or_true, reduceCtorEq, false_implies, implies_true, true_implies, not_true_eq_false, not_false_eq_true, eq_self, Int.zero_add, Int.reduceEq, Nat.reduceEqDiff, ho, h1, l1, Int.toNat_natCast]
    refine ⟨fun q => by omega, fun _ => ⟨by omega, ?_⟩⟩
    have hb : (am_up h' 64 (aC (a'.set fn v))) = am_up h' 64 (aC (a.set fn v)) := by rw [es]
    have f1 : ∀ q, q ≠ 58 → q ≠ 64 → q < 77 ∨ 80 < q → am_up h' 64 (aC (a'.set fn v)) q = h q := fun q q1 q2 q3 => by rw [am_up_n q2]; exact f q q1 q2 q3
    have mf : MF (am_up h' 64 (aC (a'.set fn v))) (P.fns.set fn (setA (P.fns.getD fn fn0) v)) := by
      refine (hW.1.brn (v := v) h0 hf l3).frame (fun q q1 q2 => ?_)
      by_cases z : q = 64
      · rw [z, am_up_s, am_up_s, es]
      · rw [am_up_n z, am_up_n z]; exact f q (by omega) z (by omega)
    have hW1 : MW (am_up h' 64 (aC (a'.set fn v))) (P.fns.set fn (setA (P.fns.getD fn fn0) v)) P.tms P.gs := ⟨mf, hW.2.1.frame (fun q q1 q2 => f1 q (by omega) (by omega) (by omega)), by rw [f1 _ (by omega) (by omega) (by omega)]; exact hW.2.2.1, hW.2.2.2.1, by rw [List.length_set]; exact l3, pv.lt⟩
    have wf2 : WF (P.fns.set fn (setA (P.fns.getD fn fn0) v)) P.tms := pv.wf.setF (i := fn) ⟨hw.1, hw.2.1, ⟨by show (0 : Int) ≤ v; omega, by show (v : Int) ≤ 1; omega⟩, hw.2.2.2⟩
    have mq : MQ2 (am_up h' 64 (aC (a'.set fn v))) P.rd := c.2.2.2.2.2.2.2.2.frame (fun q q1 q2 => f1 q (by omega) (by omega) (by omega))
    have nx : ∀ h2 pt rf st an vs lp wa ws wt wv wl is lk rw sp, FrA (am_up h' 64 (aC (a'.set fn v))) h2 → h2 58 = mO P.ft P.tr P.fns.length P.tms.length pt rf st an vs lp wa ws wt wv wl P.rd.length → AR h2 is lk rw sp → am_W 147 n (am_M (d + 6)) K 22 [some (rV 58), some (iV fn), some (iV was), some (iV (accB (triA P fn) (v + 1))), some (iV ((v + 1 : Nat) : Int))] [] n h2 := by
      intro h2 pt rf st an vs lp wa ws wt wv wl is lk rw sp f2 ho2 ar2
      refine ih (v + 1) h2 pt rf st an vs lp wa ws wt wv wl (a'.set fn v) is lk rw sp (by omega) (fun q q1 q2 q3 => by rw [f2 q q1 q3]; exact f1 q q1 q2 q3) ho2 ar2 (by rw [f2 _ (by omega) (by omega), am_up_s]) (by simpa using l1) (fun z => ?_)
      rw [List.set_set, es]
    refine sp_areSo (fns2 := P.fns.set fn (setA (P.fns.getD fn fn0) v)) pv hW1 wf2 mq (by rw [am_up_n (by omega)]; exact ho) (ar.frame (fun q _ _ => am_up_n (by omega))) (fun z h2 pt2 rf2 st2 an2 vs2 lp2 wa2 ws2 wt2 wv2 wl2 is2 lk2 rw2 sp2 f2 ho2 ar2 => ?_) (fun z h2 pt2 rf2 st2 an2 vs2 lp2 wa2 ws2 wt2 wv2 wl2 is2 lk2 rw2 sp2 f2 ho2 ar2 => ?_)
    · have n2 := nx h2 _ _ _ _ _ _ _ _ _ _ _ is2 lk2 rw2 sp2 f2 ho2 ar2
      rw [show accB (triA P fn) (v + 1) = b1 (areR (P.fns.set fn (setA (P.fns.getD fn fn0) v)) P.tms P.gs P.rd) v (accB (triA P fn) v) from rfl, z] at n2
      refine am_run 400 ?_; simp (disch := omega) only [ow_147, rt_147, rn_147_0, rn_147_1, rn_147_2, rn_147_5, rn_147_8, rn_147_9, rn_147_10, rn_147_11, rn_147_14, rn_147_15, rn_147_16, rn_147_17, rn_147_18, rn_147_19, rn_147_20, rn_147_22, rf_147_22, rn_147_24, rn_147_25, rn_147_28, rn_147_29, rn_147_32, rn_147_33, rn_147_35, rn_147_36, rn_147_37, rn_147_38, rn_147_41, rn_147_44, rn_147_45, rn_147_47, rn_147_48, rn_147_51, rn_147_52, rn_147_53, rn_147_54, rn_147_57, rn_147_60, rn_147_61, rn_147_64, rn_147_65, rn_147_66, rn_147_67, rn_147_68, s_aload_n_0, s_iload_n_1, s_ivv, am_ivq_e, am_cvq_e, am_po_s, am_po_n, am_sl_n, am_sl_i, am_sl_r, am_sl_l, ml_7_142, cq_106, s_if1_ne, jm_5_5, s_iconst_m1, s_irt, am_irq_1, am_irq_2, s_gf, am_gfq_e, am_nth_0, am_nth_s, fl_7_25, s_iald, am_iaq_e, s_istore_n_2, am_kil_n, am_kil_i, am_kil_r, am_kil_l, s_iconst_0, s_istore_n_3, s_istore_4, s_iload_4, s_iconst_2, s_if2_ge, jm_25_35, s_iast, am_iwq_e, s_iload_n_3, ml_7_230, cq_145, s_if1_eq, jm_41_10, s_iconst_1, s_ishl, s_goto, jm_48_4, s_ior, s_iinc_4, jm_57_m35, s_iload_n_2, Int.le_refl, am_c3, am_c4, am_c6, am_c7, am_c8, am_c9, am_c27, am_c60, am_c240, am_c418, am_c3500, am_up_s, am_up_n, am_uu, ne_eq, Nat.reduceAdd, Int.reduceAdd, Int.reduceNeg, Int.reduceLE, Int.reduceToNat, true_and, and_true, List.length_cons, List.length_nil, Nat.reduceLeDiff, Nat.zero_add, Nat.add_zero, Nat.le_refl, true_or, or_true, reduceCtorEq, false_implies, implies_true, true_implies, not_true_eq_false, not_false_eq_true, eq_self, Int.zero_add, Int.reduceEq, Nat.reduceEqDiff, am_i1]
      exact n2
    · have n2 := nx h2 _ _ _ _ _ _ _ _ _ _ _ is2 lk2 rw2 sp2 f2 ho2 ar2
      rw [show accB (triA P fn) (v + 1) = b1 (areR (P.fns.set fn (setA (P.fns.getD fn fn0) v)) P.tms P.gs P.rd) v (accB (triA P fn) v) from rfl, z] at n2
      refine am_run 400 ?_; simp (disch := omega) only [ow_147, rt_147, rn_147_0, rn_147_1, rn_147_2, rn_147_5, rn_147_8, rn_147_9, rn_147_10, rn_147_11, rn_147_14, rn_147_15, rn_147_16, rn_147_17, rn_147_18, rn_147_19, rn_147_20, rn_147_22, rf_147_22, rn_147_24, rn_147_25, rn_147_28, rn_147_29, rn_147_32, rn_147_33, rn_147_35, rn_147_36, rn_147_37, rn_147_38, rn_147_41, rn_147_44, rn_147_45, rn_147_47, rn_147_48, rn_147_51, rn_147_52, rn_147_53, rn_147_54, rn_147_57, rn_147_60, rn_147_61, rn_147_64, rn_147_65, rn_147_66, rn_147_67, rn_147_68, s_aload_n_0, s_iload_n_1, s_ivv, am_ivq_e, am_cvq_e, am_po_s, am_po_n, am_sl_n, am_sl_i, am_sl_r, am_sl_l, ml_7_142, cq_106, s_if1_ne, jm_5_5, s_iconst_m1, s_irt, am_irq_1, am_irq_2, s_gf, am_gfq_e, am_nth_0, am_nth_s, fl_7_25, s_iald, am_iaq_e, s_istore_n_2, am_kil_n, am_kil_i, am_kil_r, am_kil_l, s_iconst_0, s_istore_n_3, s_istore_4, s_iload_4, s_iconst_2, s_if2_ge, jm_25_35, s_iast, am_iwq_e, s_iload_n_3, ml_7_230, cq_145, s_if1_eq, jm_41_10, s_iconst_1, s_ishl, s_goto, jm_48_4, s_ior, s_iinc_4, jm_57_m35, s_iload_n_2, Int.le_refl, am_c3, am_c4, am_c6, am_c7, am_c8, am_c9, am_c27, am_c60, am_c240, am_c418, am_c3500, am_up_s, am_up_n, am_uu, ne_eq, Nat.reduceAdd, Int.reduceAdd, Int.reduceNeg, Int.reduceLE, Int.reduceToNat, true_and, and_true, List.length_cons, List.length_nil, Nat.reduceLeDiff, Nat.zero_add, Nat.add_zero, Nat.le_refl, true_or, or_true, reduceCtorEq, false_implies, implies_true, true_implies, not_true_eq_false, not_false_eq_true, eq_self, Int.zero_add, Int.reduceEq, Nat.reduceEqDiff, am_i1, or_0 (accB_in v)]
      exact n2
theorem ml_branches {f : Int} (pv : PV P) (c : MR h P) (k : ∀ h', MR h' P → FrM h h' → K (some (iV (op_branches P f))) n h') : am_M (d + 7) 147 [rV 58, iV f] n h K := by
  obtain ⟨pt, rf, st, an, vs, lp, wa, ws, wt, wv, wl, ho⟩ := c.ob
  obtain ⟨is, lk, rw, sp, ar⟩ := c.ar
  obtain ⟨a, b, e, g, u, m1, m2, m3, m4, m5, x1, x2, x3, x4, x5, hf⟩ := id c.2.2.1
  have l3 := pv.lf
  unfold op_branches at k
  refine en_147 (am_run 400 ?_); simp (disch := omega) only [ow_147, rt_147, rn_147_0, rn_147_1, rn_147_2, rn_147_5, rn_147_8, rn_147_9, rn_147_10, rn_147_11, rn_147_14, rn_147_15, rn_147_16, rn_147_17, rn_147_18, rn_147_19, rn_147_20, rn_147_22, rf_147_22, rn_147_24, rn_147_25, rn_147_28, rn_147_29, rn_147_32, rn_147_33, rn_147_35, rn_147_36, rn_147_37, rn_147_38, rn_147_41, rn_147_44, rn_147_45, rn_147_47, rn_147_48, rn_147_51, rn_147_52, rn_147_53, rn_147_54, rn_147_57, rn_147_60, rn_147_61, rn_147_64, rn_147_65, rn_147_66, rn_147_67, rn_147_68, s_aload_n_0, s_iload_n_1, s_ivv, am_ivq_e, am_cvq_e, am_po_s, am_po_n, am_sl_n, am_sl_i, am_sl_r, am_sl_l, ml_7_142, cq_106, s_if1_ne, jm_5_5, s_iconst_m1, s_irt, am_irq_1, am_irq_2, s_gf, am_gfq_e, am_nth_0, am_nth_s, fl_7_25, s_iald, am_iaq_e, s_istore_n_2, am_kil_n, am_kil_i, am_kil_r, am_kil_l, s_iconst_0, s_istore_n_3, s_istore_4, s_iload_4, s_iconst_2, s_if2_ge, jm_25_35, s_iast, am_iwq_e, s_iload_n_3, ml_7_230, cq_145, s_if1_eq, jm_41_10, s_iconst_1, s_ishl, s_goto, jm_48_4, s_ior, s_iinc_4, jm_57_m35, s_iload_n_2, Int.le_refl, am_c3, am_c4, am_c6, am_c7, am_c8, am_c9, am_c27, am_c60, am_c240, am_c418, am_c3500, am_up_s, am_up_n, am_uu, ne_eq, Nat.reduceAdd, Int.reduceAdd, Int.reduceNeg, Int.reduceLE, Int.reduceToNat, true_and, and_true, List.length_cons, List.length_nil, Nat.reduceLeDiff, Nat.zero_add, Nat.add_zero, Nat.le_refl, true_or, or_true, reduceCtorEq, false_implies, implies_true, true_implies, not_true_eq_false, not_false_eq_true, eq_self, Int.zero_add, Int.reduceEq, Nat.reduceEqDiff, ho]
  refine sp_isFunction ho (fun q => ?_) (fun q => ?_)
  · rw [if_neg (by omega)] at k
    obtain ⟨fn, rfl⟩ : ∃ fn : Nat, f = fn := ⟨f.toNat, by omega⟩
    rw [Int.toNat_natCast] at k
    refine am_run 400 ?_; simp (disch := omega) only [ow_147, rt_147, rn_147_0, rn_147_1, rn_147_2, rn_147_5, rn_147_8, rn_147_9, rn_147_10, rn_147_11, rn_147_14, rn_147_15, rn_147_16, rn_147_17, rn_147_18, rn_147_19, rn_147_20, rn_147_22, rf_147_22, rn_147_24, rn_147_25, rn_147_28, rn_147_29, rn_147_32, rn_147_33, rn_147_35, rn_147_36, rn_147_37, rn_147_38, rn_147_41, rn_147_44, rn_147_45, rn_147_47, rn_147_48, rn_147_51, rn_147_52, rn_147_53, rn_147_54, rn_147_57, rn_147_60, rn_147_61, rn_147_64, rn_147_65, rn_147_66, rn_147_67, rn_147_68, s_aload_n_0, s_iload_n_1, s_ivv, am_ivq_e, am_cvq_e, am_po_s, am_po_n, am_sl_n, am_sl_i, am_sl_r, am_sl_l, ml_7_142, cq_106, s_if1_ne, jm_5_5, s_iconst_m1, s_irt, am_irq_1, am_irq_2, s_gf, am_gfq_e, am_nth_0, am_nth_s, fl_7_25, s_iald, am_iaq_e, s_istore_n_2, am_kil_n, am_kil_i, am_kil_r, am_kil_l, s_iconst_0, s_istore_n_3, s_istore_4, s_iload_4, s_iconst_2, s_if2_ge, jm_25_35, s_iast, am_iwq_e, s_iload_n_3, ml_7_230, cq_145, s_if1_eq, jm_41_10, s_iconst_1, s_ishl, s_goto, jm_48_4, s_ior, s_iinc_4, jm_57_m35, s_iload_n_2, Int.le_refl, am_c3, am_c4, am_c6, am_c7, am_c8, am_c9, am_c27, am_c60, am_c240, am_c418, am_c3500, am_up_s, am_up_n, am_uu, ne_eq, Nat.reduceAdd, Int.reduceAdd, Int.reduceNeg, Int.reduceLE, Int.reduceToNat, true_and, and_true, List.length_cons, List.length_nil, Nat.reduceLeDiff, Nat.zero_add, Nat.add_zero, Nat.le_refl, true_or, or_true, reduceCtorEq, false_implies, implies_true, true_implies, not_true_eq_false, not_false_eq_true, eq_self, Int.zero_add, Int.reduceEq, Nat.reduceEqDiff, ho, m3, x3, Int.toNat_natCast]
    exact ⟨by omega, lp_mbranches pv c (by omega) m3 x3 rfl k 2 0 h _ _ _ _ _ _ _ _ _ _ _ e is lk rw sp (by omega) (fun q _ _ _ => rfl) ho ar m3 x3 (fun z => rfl)⟩
  · rw [if_pos q] at k
    refine am_run 400 ?_; simp (disch := omega) only [ow_147, rt_147, rn_147_0, rn_147_1, rn_147_2, rn_147_5, rn_147_8, rn_147_9, rn_147_10, rn_147_11, rn_147_14, rn_147_15, rn_147_16, rn_147_17, rn_147_18, rn_147_19, rn_147_20, rn_147_22, rf_147_22, rn_147_24, rn_147_25, rn_147_28, rn_147_29, rn_147_32, rn_147_33, rn_147_35, rn_147_36, rn_147_37, rn_147_38, rn_147_41, rn_147_44, rn_147_45, rn_147_47, rn_147_48, rn_147_51, rn_147_52, rn_147_53, rn_147_54, rn_147_57, rn_147_60, rn_147_61, rn_147_64, rn_147_65, rn_147_66, rn_147_67, rn_147_68, s_aload_n_0, s_iload_n_1, s_ivv, am_ivq_e, am_cvq_e, am_po_s, am_po_n, am_sl_n, am_sl_i, am_sl_r, am_sl_l, ml_7_142, cq_106, s_if1_ne, jm_5_5, s_iconst_m1, s_irt, am_irq_1, am_irq_2, s_gf, am_gfq_e, am_nth_0, am_nth_s, fl_7_25, s_iald, am_iaq_e, s_istore_n_2, am_kil_n, am_kil_i, am_kil_r, am_kil_l, s_iconst_0, s_istore_n_3, s_istore_4, s_iload_4, s_iconst_2, s_if2_ge, jm_25_35, s_iast, am_iwq_e, s_iload_n_3, ml_7_230, cq_145, s_if1_eq, jm_41_10, s_iconst_1, s_ishl, s_goto, jm_48_4, s_ior, s_iinc_4, jm_57_m35, s_iload_n_2, Int.le_refl, am_c3, am_c4, am_c6, am_c7, am_c8, am_c9, am_c27, am_c60, am_c240, am_c418, am_c3500, am_up_s, am_up_n, am_uu, ne_eq, Nat.reduceAdd, Int.reduceAdd, Int.reduceNeg, Int.reduceLE, Int.reduceToNat, true_and, and_true, List.length_cons, List.length_nil, Nat.reduceLeDiff, Nat.zero_add, Nat.add_zero, Nat.le_refl, true_or, or_true, reduceCtorEq, false_implies, implies_true, true_implies, not_true_eq_false, not_false_eq_true, eq_self, Int.zero_add, Int.reduceEq, Nat.reduceEqDiff]
    exact k h c FrM.rf
end
