/-! MODEL 23: functions -/
section
variable {d n : Nat} {h : am_H} {K : am_K} {P : PS} {ft tr fc tc pt rf st an vs lp wa ws wt wv wl rc : Int} {x1 x2 x3 x4 x5 x6 : Int}
theorem lp_mf4 {gl : List Int} (ho : h 58 = mO ft tr fc tc pt rf st an vs lp wa ws wt wv wl rc) (h71 : h 71 = aC gl) (ll : gl.length = 3) (k : K (some (iV fc)) n (am_up h 71 (aC [3, 3, 3]))) : am_W 110 n (am_M d) K 225 [some (rV 58), some (iV x1), some (iV x2), some (iV x3), some (iV x4), some (iV x5), some (iV x6), some (iV 0)] [] n h := by
  obtain ⟨a, b, c, rfl⟩ := l3_get ll
  refine am_runH 400 ?_; simp (disch := omega) only [ow_110, rt_110, rn_110_225, rf_110_225, rn_110_227, rn_110_228, rn_110_231, rn_110_232, rn_110_235, rn_110_237, rn_110_238, rn_110_239, rn_110_242, rn_110_245, rn_110_246, rn_110_249, s_iload_7, s_iconst_3, s_if2_ge, jm_228_17, s_aload_n_0, s_gf, am_gfq_e, am_nth_0, am_nth_s, fl_7_46, s_iast, am_iwq_e, s_iinc_7, am_kil_n, am_kil_i, am_kil_r, am_kil_l, s_goto, jm_242_m17, fl_7_95, s_irt, am_irq_1, am_irq_2, Int.le_refl, am_c3, am_c4, am_c6, am_c7, am_c8, am_c9, am_c27, am_c60, am_c240, am_c418, am_c3500, am_up_s, am_up_n, am_uu, ne_eq, Nat.reduceAdd, Int.reduceAdd, Int.reduceNeg, Int.reduceLE, Int.reduceToNat, true_and, and_true, List.length_cons, List.length_nil, Nat.reduceLeDiff, Nat.zero_add, Nat.add_zero, Nat.le_refl, true_or, or_true, reduceCtorEq, false_implies, implies_true, true_implies, not_true_eq_false, not_false_eq_true, eq_self, Int.zero_add, Int.reduceEq, Nat.reduceEqDiff, ho, h71, wr_ok, Int.reduceLT, List.set_cons_zero, List.set_cons_succ]
  refine am_runH 400 ?_; simp (disch := omega) only [ow_110, rt_110, rn_110_225, rf_110_225, rn_110_227, rn_110_228, rn_110_231, rn_110_232, rn_110_235, rn_110_237, rn_110_238, rn_110_239, rn_110_242, rn_110_245, rn_110_246, rn_110_249, s_iload_7, s_iconst_3, s_if2_ge, jm_228_17, s_aload_n_0, s_gf, am_gfq_e, am_nth_0, am_nth_s, fl_7_46, s_iast, am_iwq_e, s_iinc_7, am_kil_n, am_kil_i, am_kil_r, am_kil_l, s_goto, jm_242_m17, fl_7_95, s_irt, am_irq_1, am_irq_2, Int.le_refl, am_c3, am_c4, am_c6, am_c7, am_c8, am_c9, am_c27, am_c60, am_c240, am_c418, am_c3500, am_up_s, am_up_n, am_uu, ne_eq, Nat.reduceAdd, Int.reduceAdd, Int.reduceNeg, Int.reduceLE, Int.reduceToNat, true_and, and_true, List.length_cons, List.length_nil, Nat.reduceLeDiff, Nat.zero_add, Nat.add_zero, Nat.le_refl, true_or, or_true, reduceCtorEq, false_implies, implies_true, true_implies, not_true_eq_false, not_false_eq_true, eq_self, Int.zero_add, Int.reduceEq, Nat.reduceEqDiff, ho, h71, wr_ok, Int.reduceLT, List.set_cons_zero, List.set_cons_succ]
  refine am_runH 400 ?_; simp (disch := omega) only [ow_110, rt_110, rn_110_225, rf_110_225, rn_110_227, rn_110_228, rn_110_231, rn_110_232, rn_110_235, rn_110_237, rn_110_238, rn_110_239, rn_110_242, rn_110_245, rn_110_246, rn_110_249, s_iload_7, s_iconst_3, s_if2_ge, jm_228_17, s_aload_n_0, s_gf, am_gfq_e, am_nth_0, am_nth_s, fl_7_46, s_iast, am_iwq_e, s_iinc_7, am_kil_n, am_kil_i, am_kil_r, am_kil_l, s_goto, jm_242_m17, fl_7_95, s_irt, am_irq_1, am_irq_2, Int.le_refl, am_c3, am_c4, am_c6, am_c7, am_c8, am_c9, am_c27, am_c60, am_c240, am_c418, am_c3500, am_up_s, am_up_n, am_uu, ne_eq, Nat.reduceAdd, Int.reduceAdd, Int.reduceNeg, Int.reduceLE, Int.reduceToNat, true_and, and_true, List.length_cons, List.length_nil, Nat.reduceLeDiff, Nat.zero_add, Nat.add_zero, Nat.le_refl, true_or, or_true, reduceCtorEq, false_implies, implies_true, true_implies, not_true_eq_false, not_false_eq_true, eq_self, Int.zero_add, Int.reduceEq, Nat.reduceEqDiff, ho, h71, wr_ok, Int.reduceLT, List.set_cons_zero, List.set_cons_succ]
  refine am_runH 400 ?_; simp (disch := omega) only [ow_110, rt_110, rn_110_225, rf_110_225, rn_110_227, rn_110_228, rn_110_231, rn_110_232, rn_110_235, rn_110_237, rn_110_238, rn_110_239, rn_110_242, rn_110_245, rn_110_246, rn_110_249, s_iload_7, s_iconst_3, s_if2_ge, jm_228_17, s_aload_n_0, s_gf, am_gfq_e, am_nth_0, am_nth_s, fl_7_46, s_iast, am_iwq_e, s_iinc_7, am_kil_n, am_kil_i, am_kil_r, am_kil_l, s_goto, jm_242_m17, fl_7_95, s_irt, am_irq_1, am_irq_2, Int.le_refl, am_c3, am_c4, am_c6, am_c7, am_c8, am_c9, am_c27, am_c60, am_c240, am_c418, am_c3500, am_up_s, am_up_n, am_uu, ne_eq, Nat.reduceAdd, Int.reduceAdd, Int.reduceNeg, Int.reduceLE, Int.reduceToNat, true_and, and_true, List.length_cons, List.length_nil, Nat.reduceLeDiff, Nat.zero_add, Nat.add_zero, Nat.le_refl, true_or, or_true, reduceCtorEq, false_implies, implies_true, true_implies, not_true_eq_false, not_false_eq_true, eq_self, Int.zero_add, Int.reduceEq, Nat.reduceEqDiff, ho, h71, wr_ok, Int.reduceLT, List.set_cons_zero, List.set_cons_succ]
  exact k
theorem lp_mf3 {G : List Int} (ho : h 58 = mO ft tr fc tc pt rf st an vs lp wa ws wt wv wl rc) (h76 : h 76 = aC G) (lG : G.length = 27) (k : am_W 110 n (am_M d) K 225 [some (rV 58), some (iV x1), some (iV x2), some (iV x3), some (iV x4), some (iV x5), some (iV x6), some (iV 0)] [] n (am_up (am_up h 66 (aC G)) 58 (mO ft tr fc 0 pt rf st an vs lp wa ws wt wv wl 0))) :
    ∀ (kk q : Nat) (U : List Int), q + kk = 27 → U.length = 27 → (∀ j, j < q → U.getD j 0 = G.getD j 0) → am_W 110 n (am_M d) K 185 [some (rV 58), some (iV x1), some (iV x2), some (iV x3), some (iV x4), some (iV x5), some (iV x6), some (iV q)] [] n (am_up h 66 (aC U)) := by
  intro kk
  induction kk with
  | zero =>
    intro q U hq lU hh
    obtain rfl : q = 27 := by omega
    have : U = G := gd_ext 0 (by omega) (fun i hi => hh i (by omega))
    subst this
    refine am_runH 400 ?_; simp (disch := omega) only [ow_110, rt_110, rn_110_185, rf_110_185, rn_110_187, rn_110_189, rn_110_192, rn_110_193, rn_110_196, rn_110_198, rn_110_199, rn_110_202, rn_110_204, rn_110_205, rn_110_206, rn_110_209, rn_110_212, rn_110_213, rn_110_214, rn_110_217, rn_110_218, rn_110_219, rn_110_222, rn_110_223, s_iload_7, s_bipush_27, s_if2_ge, jm_189_23, s_aload_n_0, s_gf, am_gfq_e, am_nth_0, am_nth_s, fl_7_31, fl_7_61, s_iald, am_iaq_e, s_iast, am_iwq_e, s_iinc_7, am_kil_n, am_kil_i, am_kil_r, am_kil_l, s_goto, jm_209_m24, s_iconst_0, s_pf, am_pfq_e, am_fit_0, am_fit_1, am_fit_2, List.set_cons_zero, List.set_cons_succ, Nat.reduceLT, Bool.false_eq_true, Nat.lt_add_one, Nat.zero_lt_succ, fl_7_98, fk_7_6, ff_7_6, in_110, fl_7_125, fk_7_38, ff_7_38, s_istore_7, Int.le_refl, am_c3, am_c4, am_c6, am_c7, am_c8, am_c9, am_c27, am_c60, am_c240, am_c418, am_c3500, am_up_s, am_up_n, am_uu, ne_eq, Nat.reduceAdd, Int.reduceAdd, Int.reduceNeg, Int.reduceLE, Int.reduceToNat, true_and, and_true, List.length_cons, List.length_nil, Nat.reduceLeDiff, Nat.zero_add, Nat.add_zero, Nat.le_refl, true_or, or_true, reduceCtorEq, false_implies, implies_true, true_implies, not_true_eq_false, not_false_eq_true, eq_self, Int.zero_add, Int.reduceEq, Nat.reduceEqDiff, ho]
    exact k
  | succ kk ih =>
    intro q U hq lU hh
    refine am_runH 400 ?_; simp (disch := omega) only [ow_110, rt_110, rn_110_185, rf_110_185, rn_110_187, rn_110_189, rn_110_192, rn_110_193, rn_110_196, rn_110_198, rn_110_199, rn_110_202, rn_110_204, rn_110_205, rn_110_206, rn_110_209, rn_110_212, rn_110_213, rn_110_214, rn_110_217, rn_110_218, rn_110_219, rn_110_222, rn_110_223, s_iload_7, s_bipush_27, s_if2_ge, jm_189_23, s_aload_n_0, s_gf, am_gfq_e, am_nth_0, am_nth_s, fl_7_31, fl_7_61, s_iald, am_iaq_e, s_iast, am_iwq_e, s_iinc_7, am_kil_n, am_kil_i, am_kil_r, am_kil_l, s_goto, jm_209_m24, s_iconst_0, s_pf, am_pfq_e, am_fit_0, am_fit_1, am_fit_2, List.set_cons_zero, List.set_cons_succ, Nat.reduceLT, Bool.false_eq_true, Nat.lt_add_one, Nat.zero_lt_succ, fl_7_98, fk_7_6, ff_7_6, in_110, fl_7_125, fk_7_38, ff_7_38, s_istore_7, Int.le_refl, am_c3, am_c4, am_c6, am_c7, am_c8, am_c9, am_c27, am_c60, am_c240, am_c418, am_c3500, am_up_s, am_up_n, am_uu, ne_eq, Nat.reduceAdd, Int.reduceAdd, Int.reduceNeg, Int.reduceLE, Int.reduceToNat, true_and, and_true, List.length_cons, List.length_nil, Nat.reduceLeDiff, Nat.zero_add, Nat.add_zero, Nat.le_refl, true_or, or_true, reduceCtorEq, false_implies, implies_true, true_implies, not_true_eq_false, not_false_eq_true, eq_self, Int.zero_add, Int.reduceEq, Nat.reduceEqDiff, ho, h76, lG, lU, Int.toNat_natCast, am_i1]
    refine ⟨fun z => by omega, fun _ => ⟨by omega, by omega, ?_⟩⟩
    refine ih (q + 1) _ (by omega) (by simpa using lU) (fun j hj => ?_)
    by_cases z : j = q
    · rw [z, gd_ss (by omega)]
    · rw [gd_sn (by omega)]; exact hh j (by omega)
theorem lp_mf2 {E : List Int} (ho : h 58 = mO ft tr fc tc pt rf st an vs lp wa ws wt wv wl rc) (h75 : h 75 = aC E) (lE : E.length = 9) (k : am_W 110 n (am_M d) K 185 [some (rV 58), some (iV x1), some (iV x2), some (iV x3), some (iV x4), some (iV x5), some (iV x6), some (iV 0)] [] n (am_up h 65 (aC E))) :
    ∀ (kk q : Nat) (U : List Int), q + kk = 9 → U.length = 9 → (∀ j, j < q → U.getD j 0 = E.getD j 0) → am_W 110 n (am_M d) K 155 [some (rV 58), some (iV x1), some (iV x2), some (iV x3), some (iV x4), some (iV x5), some (iV x6), some (iV q)] [] n (am_up h 65 (aC U)) := by
  intro kk
  induction kk with
  | zero =>
    intro q U hq lU hh
    obtain rfl : q = 9 := by omega
    have : U = E := gd_ext 0 (by omega) (fun i hi => hh i (by omega))
    subst this
    refine am_runH 400 ?_; simp (disch := omega) only [ow_110, rt_110, rn_110_155, rf_110_155, rn_110_157, rn_110_159, rn_110_162, rn_110_163, rn_110_166, rn_110_168, rn_110_169, rn_110_172, rn_110_174, rn_110_175, rn_110_176, rn_110_179, rn_110_182, rn_110_183, rn_110_185, rf_110_185, s_iload_7, s_bipush_9, s_if2_ge, jm_159_23, s_aload_n_0, s_gf, am_gfq_e, am_nth_0, am_nth_s, fl_7_28, fl_7_58, s_iald, am_iaq_e, s_iast, am_iwq_e, s_iinc_7, am_kil_n, am_kil_i, am_kil_r, am_kil_l, s_goto, jm_179_m24, s_iconst_0, s_istore_7, Int.le_refl, am_c3, am_c4, am_c6, am_c7, am_c8, am_c9, am_c27, am_c60, am_c240, am_c418, am_c3500, am_up_s, am_up_n, am_uu, ne_eq, Nat.reduceAdd, Int.reduceAdd, Int.reduceNeg, Int.reduceLE, Int.reduceToNat, true_and, and_true, List.length_cons, List.length_nil, Nat.reduceLeDiff, Nat.zero_add, Nat.add_zero, Nat.le_refl, true_or, or_true, reduceCtorEq, false_implies, implies_true, true_implies, not_true_eq_false, not_false_eq_true, eq_self, Int.zero_add, Int.reduceEq, Nat.reduceEqDiff, ho]
    exact k
  | succ kk ih =>
    intro q U hq lU hh
    refine am_runH 400 ?_; simp (disch := omega) only [ow_110, rt_110, rn_110_155, rf_110_155, rn_110_157, rn_110_159, rn_110_162, rn_110_163, rn_110_166, rn_110_168, rn_110_169, rn_110_172, rn_110_174, rn_110_175, rn_110_176, rn_110_179, rn_110_182, rn_110_183, rn_110_185, rf_110_185, s_iload_7, s_bipush_9, s_if2_ge, jm_159_23, s_aload_n_0, s_gf, am_gfq_e, am_nth_0, am_nth_s, fl_7_28, fl_7_58, s_iald, am_iaq_e, s_iast, am_iwq_e, s_iinc_7, am_kil_n, am_kil_i, am_kil_r, am_kil_l, s_goto, jm_179_m24, s_iconst_0, s_istore_7, Int.le_refl, am_c3, am_c4, am_c6, am_c7, am_c8, am_c9, am_c27, am_c60, am_c240, am_c418, am_c3500, am_up_s, am_up_n, am_uu, ne_eq, Nat.reduceAdd, Int.reduceAdd, Int.reduceNeg, Int.reduceLE, Int.reduceToNat, true_and, and_true, List.length_cons, List.length_nil, Nat.reduceLeDiff, Nat.zero_add, Nat.add_zero, Nat.le_refl, true_or, or_true, reduceCtorEq, false_implies, implies_true, true_implies, not_true_eq_false, not_false_eq_true, eq_self, Int.zero_add, Int.reduceEq, Nat.reduceEqDiff, ho, h75, lE, lU, Int.toNat_natCast, am_i1]
    refine ⟨fun z => by omega, fun _ => ⟨by omega, by omega, ?_⟩⟩
    refine ih (q + 1) _ (by omega) (by simpa using lU) (fun j hj => ?_)
    by_cases z : j = q
    · rw [z, gd_ss (by omega)]
    · rw [gd_sn (by omega)]; exact hh j (by omega)
theorem lp_mf1 {A B C : List Int} {m : Nat} (hm : m ≤ 3) (ho : h 58 = mO ft tr m tc pt rf st an vs lp wa ws wt wv wl rc) (h72 : h 72 = aC A) (h73 : h 73 = aC B) (h74 : h 74 = aC C) (lA : A.length = 3) (lB : B.length = 3) (lC : C.length = 3)
    (k : ∀ U V W : List Int, U.length = 3 → V.length = 3 → W.length = 3 → (∀ j, j < m → U.getD j 0 = A.getD j 0 ∧ V.getD j 0 = B.getD j 0 ∧ W.getD j 0 = C.getD j 0) → am_W 110 n (am_M d) K 155 [some (rV 58), some (iV x1), some (iV x2), some (iV x3), some (iV x4), some (iV x5), some (iV x6), some (iV 0)] [] n (am_up (am_up (am_up h 62 (aC U)) 63 (aC V)) 64 (aC W))) :
    ∀ (kk q : Nat) (U V W : List Int), q + kk = m → U.length = 3 → V.length = 3 → W.length = 3 → (∀ j, j < q → U.getD j 0 = A.getD j 0 ∧ V.getD j 0 = B.getD j 0 ∧ W.getD j 0 = C.getD j 0) → am_W 110 n (am_M d) K 95 [some (rV 58), some (iV x1), some (iV x2), some (iV x3), some (iV x4), some (iV x5), some (iV x6), some (iV q)] [] n (am_up (am_up (am_up h 62 (aC U)) 63 (aC V)) 64 (aC W)) := by
  intro kk
  induction kk with
  | zero =>
    intro q U V W hq lU lV lW hh
    obtain rfl : q = m := by omega
    refine am_runH 400 ?_; simp (disch := omega) only [ow_110, rt_110, rn_110_95, rf_110_95, rn_110_97, rn_110_98, rn_110_101, rn_110_104, rn_110_105, rn_110_108, rn_110_110, rn_110_111, rn_110_114, rn_110_116, rn_110_117, rn_110_118, rn_110_119, rn_110_122, rn_110_124, rn_110_125, rn_110_128, rn_110_130, rn_110_131, rn_110_132, rn_110_133, rn_110_136, rn_110_138, rn_110_139, rn_110_142, rn_110_144, rn_110_145, rn_110_146, rn_110_149, rn_110_152, rn_110_153, rn_110_155, rf_110_155, s_iload_7, s_aload_n_0, s_gf, am_gfq_e, am_nth_0, am_nth_s, fl_7_95, s_if2_ge, jm_101_51, fl_7_19, fl_7_49, s_iald, am_iaq_e, s_iast, am_iwq_e, fl_7_22, fl_7_52, fl_7_25, fl_7_55, s_iinc_7, am_kil_n, am_kil_i, am_kil_r, am_kil_l, s_goto, jm_149_m54, s_iconst_0, s_istore_7, Int.le_refl, am_c3, am_c4, am_c6, am_c7, am_c8, am_c9, am_c27, am_c60, am_c240, am_c418, am_c3500, am_up_s, am_up_n, am_uu, ne_eq, Nat.reduceAdd, Int.reduceAdd, Int.reduceNeg, Int.reduceLE, Int.reduceToNat, true_and, and_true, List.length_cons, List.length_nil, Nat.reduceLeDiff, Nat.zero_add, Nat.add_zero, Nat.le_refl, true_or, or_true, reduceCtorEq, false_implies, implies_true, true_implies, not_true_eq_false, not_false_eq_true, eq_self, Int.zero_add, Int.reduceEq, Nat.reduceEqDiff, ho]
    exact k U V W lU lV lW hh
  | succ kk ih =>
    intro q U V W hq lU lV lW hh
    refine am_runH 400 ?_; simp (disch := omega) only [ow_110, rt_110, rn_110_95, rf_110_95, rn_110_97, rn_110_98, rn_110_101, rn_110_104, rn_110_105, rn_110_108, rn_110_110, rn_110_111, rn_110_114, rn_110_116, rn_110_117, rn_110_118, rn_110_119, rn_110_122, rn_110_124, rn_110_125, rn_110_128, rn_110_130, rn_110_131, rn_110_132, rn_110_133, rn_110_136, rn_110_138, rn_110_139, rn_110_142, rn_110_144, rn_110_145, rn_110_146, rn_110_149, rn_110_152, rn_110_153, rn_110_155, rf_110_155, s_iload_7, s_aload_n_0, s_gf, am_gfq_e, am_nth_0, am_nth_s, fl_7_95, s_if2_ge, jm_101_51, fl_7_19, fl_7_49, s_iald, am_iaq_e, s_iast, am_iwq_e, fl_7_22, fl_7_52, fl_7_25, fl_7_55, s_iinc_7, am_kil_n, am_kil_i, am_kil_r, am_kil_l, s_goto, jm_149_m54, s_iconst_0, s_istore_7, Int.le_refl, am_c3, am_c4, am_c6, am_c7, am_c8, am_c9, am_c27, am_c60, am_c240, am_c418, am_c3500, am_up_s, am_up_n, am_uu, ne_eq, Nat.reduceAdd, Int.reduceAdd, Int.reduceNeg, Int.reduceLE, Int.reduceToNat, true_and, and_true, List.length_cons, List.length_nil, Nat.reduceLeDiff, Nat.zero_add, Nat.add_zero, Nat.le_refl, true_or, or_true, reduceCtorEq, false_implies, implies_true, true_implies, not_true_eq_false, not_false_eq_true, eq_self, Int.zero_add, Int.reduceEq, Nat.reduceEqDiff, ho, h72, h73, h74, lA, lB, lC, lU, lV, lW, Int.toNat_natCast, am_i1]
    refine ⟨fun z => by omega, fun _ => ⟨by omega, by omega, by omega, by omega, by omega, by omega, ?_⟩⟩
    have nx := ih (q + 1) (U.set q (A.getD q 0)) (V.set q (B.getD q 0)) (W.set q (C.getD q 0)) (by omega) (by simpa using lU) (by simpa using lV) (by simpa using lW) (fun j hj => by
      by_cases z : j = q
      · rw [z, gd_ss (by omega), gd_ss (by omega), gd_ss (by omega)]
        exact ⟨rfl, rfl, rfl⟩
      · rw [gd_sn (by omega), gd_sn (by omega), gd_sn (by omega)]; exact hh j (by omega))
    have eh : am_up (am_up (am_up (am_up (am_up (am_up h 62 (aC U)) 63 (aC V)) 64 (aC W)) 62 (aC (U.set q (A.getD q 0)))) 63 (aC (V.set q (B.getD q 0)))) 64 (aC (W.set q (C.getD q 0))) = am_up (am_up (am_up h 62 (aC (U.set q (A.getD q 0)))) 63 (aC (V.set q (B.getD q 0)))) 64 (aC (W.set q (C.getD q 0))) := by
      funext z
      unfold am_up
      split
      · rfl
      · split
        · rfl
        · split <;> rfl
    rw [← eh] at nx
    exact nx
theorem MF_RQ {l : List PrT} {A B C E G U V W : List Int} (rq : RQ l A B C E G) (l3 : l.length ≤ 3) (lE : E.length = 9) (lG : G.length = 27) (lU : U.length = 3) (lV : V.length = 3) (lW : W.length = 3) (h62 : h 62 = aC U) (h63 : h 63 = aC V) (h64 : h 64 = aC W) (h65 : h 65 = aC E) (h66 : h 66 = aC G) (hh : ∀ j, j < l.length → U.getD j 0 = A.getD j 0 ∧ V.getD j 0 = B.getD j 0 ∧ W.getD j 0 = C.getD j 0) : MF h (l.map cfn) := by
  refine ⟨U, V, W, E, G, h62, h63, h64, h65, h66, lU, lV, lW, lE, lG, fun f hf => ?_⟩
  rw [List.length_map] at hf
  obtain ⟨r1, r2, r3, r4⟩ := rq f hf
  obtain ⟨u1, u2, u3⟩ := hh f hf
  have ef : (l.map cfn).getD f fn0 = cfn (l.getD f pr0) := by
    rw [List.getD_eq_getElem?_getD, List.getElem?_map, gd_get pr0 hf]
    rfl
  rw [ef]
  generalize l.getD f pr0 = R at *
  refine ⟨u1.trans r1, u2.trans r2, u3.trans r3, fun v hv => ?_⟩
  obtain ⟨t1, t2⟩ := r4 v hv
  have e1 : (cfn R).2.2.2.1.getD v 0 = (R.2.2.2.getD v tw0d).1 := by
    rcases (by omega : v = 0 ∨ v = 1 ∨ v = 2) with q | q | q <;> subst q <;> rfl
  refine ⟨t1.trans e1.symm, fun z u hu => ?_⟩
  rw [e1] at z
  rw [t2 z u hu]
  have e2 : (cfn R).2.2.2.2.getD (3 * v + u) 0 = if (R.2.2.2.getD ((3 * v + u) / 3) tw0d).1 = 14 then (R.2.2.2.getD ((3 * v + u) / 3) tw0d).2.getD ((3 * v + u) % 3) 0 else 0 := by
    unfold cfn
    dsimp only
    rw [List.getD_eq_getElem?_getD, List.getElem?_map, List.getElem?_range (by omega)]
    rfl
  rw [e2, show (3 * v + u) / 3 = v by omega, show (3 * v + u) % 3 = u by omega, if_pos z]
theorem MR.px {h' : am_H} (c : MR h P) (f : FrP h h') {pt rf st an vs lp wa ws wt wv wl : Int} (e : h' 58 = mO P.ft P.tr P.fns.length P.tms.length pt rf st an vs lp wa ws wt wv wl P.rd.length) {A B C E G : List Int} (p : PX h' A B C E G) : MR h' P := by
  obtain ⟨c1, c2, c3, c4, ⟨l, c5⟩, _, ⟨is, lk, rw, sp, c7⟩, ⟨l2, c8⟩, c9⟩ := c
  refine ⟨⟨pt, rf, st, an, vs, lp, wa, ws, wt, wv, wl, e⟩, c2.frame (fun q _ _ => f q (by omega) (by omega)), c3.frame (fun q _ _ => f q (by omega) (by omega)), c4.frame (fun q _ _ => f q (by omega) (by omega)), ⟨l, ?_⟩, ⟨A, B, C, E, G, p⟩, ⟨is, lk, rw, sp, c7.frame (fun q _ _ => f q (by omega) (by omega))⟩, ⟨l2, ?_⟩, c9.frame (fun q _ _ => f q (by omega) (by omega))⟩
  · rw [f _ (by omega) (by omega)]; exact c5
  · rw [f _ (by omega) (by omega)]; exact c8
set_option maxRecDepth 100000 in
theorem ml_functions {i la j m : Int} (hj : inR j) (hm : inR m) (pv : PV P) (c : MR h P) (k : ∀ h', MR h' (op_functions P i la j m).2 → FrM h h' → K (some (iV (op_functions P i la j m).1)) n h') : am_M (d + 6) 110 [rV 58, iV i, iV la, iV j, iV m] n h K := by
  obtain ⟨pt, rf, st, an, vs, lp, wa, ws, wt, wv, wl, ho⟩ := c.ob
  have c0 := c.f0 (pt := pt) (rf := rf) (st := st) (an := an) (vs := vs) (lp := lp) (wa := wa) (ws := ws) (wt := wt) (wv := wv) (wl := wl) 0
  have f0 : FrM h (am_up h 58 (mO 0 P.tr P.fns.length P.tms.length pt rf st an vs lp wa ws wt wv wl P.rd.length)) := FrM.rf.up (by omega)
  have ho0 : am_up h 58 (mO 0 P.tr P.fns.length P.tms.length pt rf st an vs lp wa ws wt wv wl P.rd.length) 58 = mO 0 P.tr P.fns.length P.tms.length pt rf st an vs lp wa ws wt wv wl P.rd.length := am_up_s
  have pv0 : PV (P.uf 0) := pv
  unfold op_functions at k
  refine en_110 (am_run 400 ?_); simp (disch := omega) only [ow_110, rt_110, rn_110_0, rn_110_1, rn_110_2, rn_110_5, rn_110_6, rn_110_9, rn_110_12, rn_110_13, rn_110_14, rn_110_15, rn_110_18, rn_110_21, rn_110_23, rn_110_24, rn_110_25, rn_110_26, rn_110_27, rn_110_28, rn_110_30, rn_110_33, rn_110_35, rn_110_37, rn_110_40, rn_110_41, rn_110_43, rn_110_46, rn_110_47, s_aload_n_0, s_iconst_0, s_pf, am_pfq_e, am_fit_0, am_fit_1, am_fit_2, List.set_cons_zero, List.set_cons_succ, Nat.reduceLT, Bool.false_eq_true, Nat.lt_add_one, Nat.zero_lt_succ, fl_7_85, fk_7_0, ff_7_0, in_110, s_iload_n_1, s_ivs, am_isv_1, am_isv_3, am_isv_5, s_acp, am_cpq_e, am_po_s, am_po_n, am_sl_n, am_sl_i, am_sl_r, am_sl_l, ml_7_104, cq_103, s_if1_ne, jm_9_5, s_iconst_m1, s_irt, am_irq_1, am_irq_2, s_iload_n_2, ml_7_108, cq_104, jm_18_6, s_bipush_m2, s_iload_n_3, s_iload_4, s_ivv, am_ivq_e, am_cvq_e, ml_7_111, cq_105, s_istore_5, am_kil_n, am_kil_i, am_kil_r, am_kil_l, s_iload_5, s_if1_eq, jm_37_10, ml_7_115, cq_100, s_bipush_60, Int.le_refl, am_c3, am_c4, am_c6, am_c7, am_c8, am_c9, am_c27, am_c60, am_c240, am_c418, am_c3500, am_up_s, am_up_n, am_uu, ne_eq, Nat.reduceAdd, Int.reduceAdd, Int.reduceNeg, Int.reduceLE, Int.reduceToNat, true_and, and_true, List.length_cons, List.length_nil, Nat.reduceLeDiff, Nat.zero_add, Nat.add_zero, Nat.le_refl, true_or, or_true, reduceCtorEq, false_implies, implies_true, true_implies, not_true_eq_false, not_false_eq_true, eq_self, Int.zero_add, Int.reduceEq, Nat.reduceEqDiff, ho]
  refine sp_isSheet (fun q => ?_) (fun q => ?_)
  · rw [if_neg (by omega)] at k
    refine am_run 400 ?_; simp (disch := omega) only [ow_110, rt_110, rn_110_0, rn_110_1, rn_110_2, rn_110_5, rn_110_6, rn_110_9, rn_110_12, rn_110_13, rn_110_14, rn_110_15, rn_110_18, rn_110_21, rn_110_23, rn_110_24, rn_110_25, rn_110_26, rn_110_27, rn_110_28, rn_110_30, rn_110_33, rn_110_35, rn_110_37, rn_110_40, rn_110_41, rn_110_43, rn_110_46, rn_110_47, s_aload_n_0, s_iconst_0, s_pf, am_pfq_e, am_fit_0, am_fit_1, am_fit_2, List.set_cons_zero, List.set_cons_succ, Nat.reduceLT, Bool.false_eq_true, Nat.lt_add_one, Nat.zero_lt_succ, fl_7_85, fk_7_0, ff_7_0, in_110, s_iload_n_1, s_ivs, am_isv_1, am_isv_3, am_isv_5, s_acp, am_cpq_e, am_po_s, am_po_n, am_sl_n, am_sl_i, am_sl_r, am_sl_l, ml_7_104, cq_103, s_if1_ne, jm_9_5, s_iconst_m1, s_irt, am_irq_1, am_irq_2, s_iload_n_2, ml_7_108, cq_104, jm_18_6, s_bipush_m2, s_iload_n_3, s_iload_4, s_ivv, am_ivq_e, am_cvq_e, ml_7_111, cq_105, s_istore_5, am_kil_n, am_kil_i, am_kil_r, am_kil_l, s_iload_5, s_if1_eq, jm_37_10, ml_7_115, cq_100, s_bipush_60, Int.le_refl, am_c3, am_c4, am_c6, am_c7, am_c8, am_c9, am_c27, am_c60, am_c240, am_c418, am_c3500, am_up_s, am_up_n, am_uu, ne_eq, Nat.reduceAdd, Int.reduceAdd, Int.reduceNeg, Int.reduceLE, Int.reduceToNat, true_and, and_true, List.length_cons, List.length_nil, Nat.reduceLeDiff, Nat.zero_add, Nat.add_zero, Nat.le_refl, true_or, or_true, reduceCtorEq, false_implies, implies_true, true_implies, not_true_eq_false, not_false_eq_true, eq_self, Int.zero_add, Int.reduceEq, Nat.reduceEqDiff]
    refine sp_isSort (fun q1 => ?_) (fun q1 => ?_)
    · rw [if_neg (by omega)] at k
      refine am_run 400 ?_; simp (disch := omega) only [ow_110, rt_110, rn_110_0, rn_110_1, rn_110_2, rn_110_5, rn_110_6, rn_110_9, rn_110_12, rn_110_13, rn_110_14, rn_110_15, rn_110_18, rn_110_21, rn_110_23, rn_110_24, rn_110_25, rn_110_26, rn_110_27, rn_110_28, rn_110_30, rn_110_33, rn_110_35, rn_110_37, rn_110_40, rn_110_41, rn_110_43, rn_110_46, rn_110_47, s_aload_n_0, s_iconst_0, s_pf, am_pfq_e, am_fit_0, am_fit_1, am_fit_2, List.set_cons_zero, List.set_cons_succ, Nat.reduceLT, Bool.false_eq_true, Nat.lt_add_one, Nat.zero_lt_succ, fl_7_85, fk_7_0, ff_7_0, in_110, s_iload_n_1, s_ivs, am_isv_1, am_isv_3, am_isv_5, s_acp, am_cpq_e, am_po_s, am_po_n, am_sl_n, am_sl_i, am_sl_r, am_sl_l, ml_7_104, cq_103, s_if1_ne, jm_9_5, s_iconst_m1, s_irt, am_irq_1, am_irq_2, s_iload_n_2, ml_7_108, cq_104, jm_18_6, s_bipush_m2, s_iload_n_3, s_iload_4, s_ivv, am_ivq_e, am_cvq_e, ml_7_111, cq_105, s_istore_5, am_kil_n, am_kil_i, am_kil_r, am_kil_l, s_iload_5, s_if1_eq, jm_37_10, ml_7_115, cq_100, s_bipush_60, Int.le_refl, am_c3, am_c4, am_c6, am_c7, am_c8, am_c9, am_c27, am_c60, am_c240, am_c418, am_c3500, am_up_s, am_up_n, am_uu, ne_eq, Nat.reduceAdd, Int.reduceAdd, Int.reduceNeg, Int.reduceLE, Int.reduceToNat, true_and, and_true, List.length_cons, List.length_nil, Nat.reduceLeDiff, Nat.zero_add, Nat.add_zero, Nat.le_refl, true_or, or_true, reduceCtorEq, false_implies, implies_true, true_implies, not_true_eq_false, not_false_eq_true, eq_self, Int.zero_add, Int.reduceEq, Nat.reduceEqDiff, ho]
      refine sp_against hj hm q q1 pv0 c0 ?_
      have ea : agn (P.uf 0) i la j m = agn P i la j m := rfl
      rw [ea]
      have ra : 0 ≤ agn P i la j m ∧ agn P i la j m ≤ 4 := by
        unfold agn
        split
        · omega
        · split
          · omega
          · split
            · omega
            · split <;> omega
      have en : agn P i la j m = 0 → ∃ l0 sz cs, P.sh i.toNat = some (l0, sz, cs) ∧ 0 ≤ j ∧ 0 ≤ m ∧ j + m ≤ sz := by
        intro z
        unfold agn at z
        split at z
        · omega
        · next l sz cs e =>
          refine ⟨l, sz, cs, e, ?_⟩
          split at z
          · omega
          · split at z
            · omega
            · split at z <;> omega
      generalize agn P i la j m = ag at *
      by_cases z : ag = 0
      · rw [if_neg (fun y => y z)] at k
        obtain ⟨l0, sz, cs, s1, s2, s2', s3⟩ := en z
        have hz := pv.sh _ _ _ _ s1
        have eC : celA P i = cs := by unfold celA; rw [s1]
        rw [eC] at k
        obtain ⟨kn, rfl⟩ : ∃ kn : Nat, i = kn := ⟨i.toNat, by omega⟩
        obtain ⟨jn, rfl⟩ : ∃ jn : Nat, j = jn := ⟨j.toNat, by omega⟩
        obtain ⟨mn, rfl⟩ : ∃ mn : Nat, m = mn := ⟨m.toNat, by omega⟩
        rw [Int.toNat_natCast] at s1
        rw [Int.toNat_natCast, Int.toNat_natCast] at k
        obtain ⟨a, b, e, m1, m2, m3, x1, x2, x3, hs⟩ := c0.2.1
        have s4 : ∀ x, x < 60 → e.getD (60 * kn + x) 0 = cs.getD x 0 := by
          rcases hs kn (by omega) with ⟨t1, _⟩ | ⟨l1, sz', cs', t1, t2, t3, t4⟩
          · have := s1.symm.trans t1
            cases this
          · have := s1.symm.trans t1
            cases this
            exact t4
        have hc : ∀ x, x < mn → e.getD (60 * kn + jn + x) 0 = cF cs jn x := fun x hx => by
          rw [show 60 * kn + jn + x = 60 * kn + (jn + x) by omega]
          exact s4 _ (by omega)
        have e1 : 60 * (kn : Int) + jn = ((60 * kn + jn : Nat) : Int) := by omega
        have e2 : ((60 * kn + jn : Nat) : Int) + mn = ((60 * kn + jn + mn : Nat) : Int) := by omega
        obtain ⟨A, B, C, E, G, px⟩ := c0.2.2.2.2.2.1
        subst z
        refine am_run 400 ?_; simp (disch := omega) only [ow_110, rt_110, rn_110_30, rn_110_33, rn_110_35, rn_110_37, rn_110_40, rn_110_41, rn_110_43, rn_110_46, rn_110_47, rn_110_49, rn_110_50, rn_110_51, rn_110_52, rn_110_53, rn_110_55, rn_110_56, rn_110_58, rn_110_61, rn_110_62, rn_110_64, rn_110_66, rn_110_67, rn_110_70, rn_110_73, rn_110_75, rn_110_76, rn_110_79, rn_110_81, rn_110_82, rn_110_83, rn_110_84, rn_110_85, rn_110_86, rn_110_89, rn_110_92, s_ivv, am_ivq_e, am_cvq_e, am_po_s, am_po_n, am_sl_n, am_sl_i, am_sl_r, am_sl_l, ml_7_111, cq_105, s_istore_5, am_kil_n, am_kil_i, am_kil_r, am_kil_l, s_iload_5, s_if1_eq, jm_37_10, s_aload_n_0, ml_7_115, cq_100, s_irt, am_irq_1, am_irq_2, s_bipush_60, s_iload_n_1, s_imul, s_iload_n_3, s_iadd, s_istore_6, s_iload_6, s_pf, am_pfq_e, am_fit_0, am_fit_1, am_fit_2, List.set_cons_zero, List.set_cons_succ, Nat.reduceLT, Bool.false_eq_true, Nat.lt_add_one, Nat.zero_lt_succ, fl_7_101, fk_7_17, ff_7_17, in_110, s_iload_4, ml_7_119, cq_111, s_if1_ne, jm_70_14, s_bipush_m100, s_gf, am_gfq_e, am_nth_0, am_nth_s, s_isub, fl_7_122, fl_7_95, fk_7_5, ff_7_5, s_iconst_0, Int.le_refl, am_c3, am_c4, am_c6, am_c7, am_c8, am_c9, am_c27, am_c60, am_c240, am_c418, am_c3500, am_up_s, am_up_n, am_uu, ne_eq, Nat.reduceAdd, Int.reduceAdd, Int.reduceNeg, Int.reduceLE, Int.reduceToNat, true_and, and_true, List.length_cons, List.length_nil, Nat.reduceLeDiff, Nat.zero_add, Nat.add_zero, Nat.le_refl, true_or, or_true, reduceCtorEq, false_implies, implies_true, true_implies, not_true_eq_false, not_false_eq_true, eq_self, Int.zero_add, Int.reduceEq, Nat.reduceEqDiff, ho, wr_ok, e1, e2]
        have ho1 : am_up h 58 (mO 0 P.tr P.fns.length P.tms.length ((60 * kn + jn : Nat) : Int) rf st an vs lp wa ws wt wv wl P.rd.length) 58 = mO 0 P.tr P.fns.length P.tms.length ((60 * kn + jn : Nat) : Int) rf st an vs lp wa ws wt wv wl P.rd.length := am_up_s
        have fr1 : F58 (am_up h 58 (mO 0 P.tr P.fns.length P.tms.length pt rf st an vs lp wa ws wt wv wl P.rd.length)) (am_up h 58 (mO 0 P.tr P.fns.length P.tms.length ((60 * kn + jn : Nat) : Int) rf st an vs lp wa ws wt wv wl P.rd.length)) := fun q hq => by rw [am_up_n hq, am_up_n hq]
        refine sp_mreadAll (len := mn) ho1 (by rw [fr1 _ (by omega)]; exact m3) x3 (by omega) hc (PX.fr px fr1) (fun l a A' B' C' E' G' h2 et g1 g3 f2 ho2 px2 rq => ?_) (fun a rf' A' B' C' E' G' h2 et f2 ho2 px2 => ?_)
        · rw [et] at k
          have c2 : MR h2 (P.uf 0) := c0.px (fr1.P.tr f2) ho2 px2
          have f2M : FrM h h2 := fun q hq => by rw [f2 q (by omega) (by omega), am_up_n (by omega)]
          obtain ⟨U0, V0, W0, E0, G0, u1, u2, u3, u4, u5, v1, v2, v3, v4, v5, _⟩ := id c2.2.2.1
          obtain ⟨w1, w2, w3, w4, w5, y1, y2, y3, y4, y5⟩ := id px2
          obtain ⟨gl, w71, lgl, _⟩ := c2.2.2.2.2.1
          refine am_run 400 ?_; simp (disch := omega) only [ow_110, rt_110, rn_110_67, rn_110_70, rn_110_73, rn_110_75, rn_110_76, rn_110_79, rn_110_81, rn_110_82, rn_110_83, rn_110_84, rn_110_85, rn_110_86, rn_110_89, rn_110_92, rn_110_93, rn_110_95, rf_110_95, s_ivv, am_ivq_e, am_cvq_e, am_po_s, am_po_n, am_sl_n, am_sl_i, am_sl_r, am_sl_l, ml_7_119, cq_111, s_if1_ne, jm_70_14, s_bipush_m100, s_aload_n_0, s_gf, am_gfq_e, am_nth_0, am_nth_s, fl_7_101, s_iload_6, s_isub, s_irt, am_irq_1, am_irq_2, fl_7_122, s_pf, am_pfq_e, am_fit_0, am_fit_1, am_fit_2, List.set_cons_zero, List.set_cons_succ, Nat.reduceLT, Bool.false_eq_true, Nat.lt_add_one, Nat.zero_lt_succ, fl_7_95, fk_7_5, ff_7_5, in_110, s_iconst_0, s_istore_7, am_kil_n, am_kil_i, am_kil_r, am_kil_l, s_iload_7, Int.le_refl, am_c3, am_c4, am_c6, am_c7, am_c8, am_c9, am_c27, am_c60, am_c240, am_c418, am_c3500, am_up_s, am_up_n, am_uu, ne_eq, Nat.reduceAdd, Int.reduceAdd, Int.reduceNeg, Int.reduceLE, Int.reduceToNat, true_and, and_true, List.length_cons, List.length_nil, Nat.reduceLeDiff, Nat.zero_add, Nat.add_zero, Nat.le_refl, true_or, or_true, reduceCtorEq, false_implies, implies_true, true_implies, not_true_eq_false, not_false_eq_true, eq_self, Int.zero_add, Int.reduceEq, Nat.reduceEqDiff, ho2]
          have go := lp_mf1 (h := am_up h2 58 (mO 0 P.tr l.length P.tms.length ((60 * kn + jn + a : Nat) : Int) l.length st an vs lp wa ws wt wv wl P.rd.length)) (n := n) (d := d + 5) (K := K) (A := A') (B := B') (C := C') (x1 := kn) (x2 := la) (x3 := jn) (x4 := mn) (x5 := 0) (x6 := ((60 * kn + jn : Nat) : Int)) g3 am_up_s (by rw [am_up_n (by omega)]; exact w1) (by rw [am_up_n (by omega)]; exact w2) (by rw [am_up_n (by omega)]; exact w3) y1 y2 y3 (fun U V W lU lV lW hh => ?_) l.length 0 U0 V0 W0 (by omega) v1 v2 v3 (fun j hj => by omega)
          · rw [am_up_self (r := 62) (by rw [am_up_n (by omega)]; exact u1), am_up_self (r := 63) (by rw [am_up_n (by omega)]; exact u2), am_up_self (r := 64) (by rw [am_up_n (by omega)]; exact u3)] at go
            exact go
          · have q62 : am_up (am_up (am_up (am_up h2 58 (mO 0 P.tr l.length P.tms.length ((60 * kn + jn + a : Nat) : Int) l.length st an vs lp wa ws wt wv wl P.rd.length)) 62 (aC U)) 63 (aC V)) 64 (aC W) 62 = aC U := by rw [am_up_n (by omega), am_up_n (by omega), am_up_s]
            have q63 : am_up (am_up (am_up (am_up h2 58 (mO 0 P.tr l.length P.tms.length ((60 * kn + jn + a : Nat) : Int) l.length st an vs lp wa ws wt wv wl P.rd.length)) 62 (aC U)) 63 (aC V)) 64 (aC W) 63 = aC V := by rw [am_up_n (by omega), am_up_s]
            have q64 : am_up (am_up (am_up (am_up h2 58 (mO 0 P.tr l.length P.tms.length ((60 * kn + jn + a : Nat) : Int) l.length st an vs lp wa ws wt wv wl P.rd.length)) 62 (aC U)) 63 (aC V)) 64 (aC W) 64 = aC W := am_up_s
            have q58 : am_up (am_up (am_up (am_up h2 58 (mO 0 P.tr l.length P.tms.length ((60 * kn + jn + a : Nat) : Int) l.length st an vs lp wa ws wt wv wl P.rd.length)) 62 (aC U)) 63 (aC V)) 64 (aC W) 58 = mO 0 P.tr l.length P.tms.length ((60 * kn + jn + a : Nat) : Int) l.length st an vs lp wa ws wt wv wl P.rd.length := by rw [am_up_n (by omega), am_up_n (by omega), am_up_n (by omega), am_up_s]
            have qq : ∀ q, q ≠ 58 → q ≠ 62 → q ≠ 63 → q ≠ 64 → am_up (am_up (am_up (am_up h2 58 (mO 0 P.tr l.length P.tms.length ((60 * kn + jn + a : Nat) : Int) l.length st an vs lp wa ws wt wv wl P.rd.length)) 62 (aC U)) 63 (aC V)) 64 (aC W) q = h2 q := fun q z1 z2 z3 z4 => by rw [am_up_n z4, am_up_n z3, am_up_n z2, am_up_n z1]
            generalize am_up (am_up (am_up (am_up h2 58 (mO 0 P.tr l.length P.tms.length ((60 * kn + jn + a : Nat) : Int) l.length st an vs lp wa ws wt wv wl P.rd.length)) 62 (aC U)) 63 (aC V)) 64 (aC W) = H4 at *
            have go2 := lp_mf2 (h := H4) (n := n) (d := d + 5) (K := K) (E := E') (x1 := kn) (x2 := la) (x3 := jn) (x4 := mn) (x5 := 0) (x6 := ((60 * kn + jn : Nat) : Int)) q58 (by rw [qq _ (by omega) (by omega) (by omega) (by omega)]; exact w4) y4 ?_ 9 0 E0 (by omega) v4 (fun j hj => by omega)
            · rw [am_up_self (r := 65) (by rw [qq _ (by omega) (by omega) (by omega) (by omega)]; exact u4)] at go2
              exact go2
            · have go3 := lp_mf3 (h := am_up H4 65 (aC E')) (n := n) (d := d + 5) (K := K) (G := G') (x1 := kn) (x2 := la) (x3 := jn) (x4 := mn) (x5 := 0) (x6 := ((60 * kn + jn : Nat) : Int)) (by rw [am_up_n (by omega)]; exact q58) (by rw [am_up_n (by omega), qq _ (by omega) (by omega) (by omega) (by omega)]; exact w5) y5 ?_ 27 0 G0 (by omega) v5 (fun j hj => by omega)
              · rw [am_up_self (r := 66) (by rw [am_up_n (by omega), qq _ (by omega) (by omega) (by omega) (by omega)]; exact u5)] at go3
                exact go3
              · refine lp_mf4 (gl := gl) am_up_s (by rw [am_up_n (by omega), am_up_n (by omega), am_up_n (by omega), qq _ (by omega) (by omega) (by omega) (by omega)]; exact w71) lgl ?_
                have qf : ∀ q, q ≠ 58 → q < 62 ∨ 66 < q → q ≠ 71 → am_up (am_up (am_up (am_up H4 65 (aC E')) 66 (aC G')) 58 (mO 0 P.tr l.length 0 ((60 * kn + jn + a : Nat) : Int) l.length st an vs lp wa ws wt wv wl 0)) 71 (aC [3, 3, 3]) q = h2 q := fun q z1 z2 z3 => by rw [am_up_n z3, am_up_n z1, am_up_n (by omega), am_up_n (by omega)]; exact qq q z1 (by omega) (by omega) (by omega)
                refine k _ (c2.unx (fun q hq => qf q (by omega) (by omega) (by omega)) (by rw [am_up_n (by omega), am_up_s, List.length_map]; rfl) (MF_RQ rq g3 y4 y5 lU lV lW (by rw [am_up_n (by omega), am_up_n (by omega), am_up_n (by omega), am_up_n (by omega)]; exact q62) (by rw [am_up_n (by omega), am_up_n (by omega), am_up_n (by omega), am_up_n (by omega)]; exact q63) (by rw [am_up_n (by omega), am_up_n (by omega), am_up_n (by omega), am_up_n (by omega)]; exact q64) (by rw [am_up_n (by omega), am_up_n (by omega), am_up_n (by omega), am_up_s]) (by rw [am_up_n (by omega), am_up_n (by omega), am_up_s]) hh) ?_ ⟨_, am_up_s, rfl, fun _ => rfl⟩ ?_) (fun q hq => by rw [qf q (by omega) (by omega) (by omega)]; exact f2M q hq)
                · obtain ⟨t1, t2, t3, t4, g5, g6, g7, g8, i1, i2, i3, i4, _⟩ := c2.2.2.2.1
                  exact ⟨t1, t2, t3, t4, by rw [qf _ (by omega) (by omega) (by omega)]; exact g5, by rw [qf _ (by omega) (by omega) (by omega)]; exact g6, by rw [qf _ (by omega) (by omega) (by omega)]; exact g7, by rw [qf _ (by omega) (by omega) (by omega)]; exact g8, i1, i2, i3, i4, fun t ht => absurd ht (by simp)⟩
                · obtain ⟨t1, t2, g5, g6, i1, i2, _⟩ := c2.2.2.2.2.2.2.2.2
                  exact ⟨t1, t2, by rw [qf _ (by omega) (by omega) (by omega)]; exact g5, by rw [qf _ (by omega) (by omega) (by omega)]; exact g6, i1, i2, fun t ht => absurd ht (by simp)⟩
        · rw [et] at k
          have c2 : MR h2 (P.uf 0) := c0.px (fr1.P.tr f2) ho2 px2
          have ha := ptext_le et
          refine am_run 400 ?_; simp (disch := omega) only [ow_110, rt_110, rn_110_67, rn_110_70, rn_110_73, rn_110_75, rn_110_76, rn_110_79, rn_110_81, rn_110_82, rn_110_83, rn_110_84, s_ivv, am_ivq_e, am_cvq_e, am_po_s, am_po_n, am_sl_n, am_sl_i, am_sl_r, am_sl_l, ml_7_119, cq_111, s_if1_ne, jm_70_14, s_bipush_m100, s_aload_n_0, s_gf, am_gfq_e, am_nth_0, am_nth_s, fl_7_101, s_iload_6, s_isub, s_irt, am_irq_1, am_irq_2, Int.le_refl, am_c3, am_c4, am_c6, am_c7, am_c8, am_c9, am_c27, am_c60, am_c240, am_c418, am_c3500, am_up_s, am_up_n, am_uu, ne_eq, Nat.reduceAdd, Int.reduceAdd, Int.reduceNeg, Int.reduceLE, Int.reduceToNat, true_and, and_true, List.length_cons, List.length_nil, Nat.reduceLeDiff, Nat.zero_add, Nat.add_zero, Nat.le_refl, true_or, or_true, reduceCtorEq, false_implies, implies_true, true_implies, not_true_eq_false, not_false_eq_true, eq_self, Int.zero_add, Int.reduceEq, Nat.reduceEqDiff, ho2, wr_ok]
          have k' := k h2 c2 (fun q hq => by rw [f2 q (by omega) (by omega), am_up_n (by omega)])
          dsimp only at k'
          rw [show -100 - (((60 * kn + jn + a : Nat) : Int) - ((60 * kn + jn : Nat) : Int)) = -100 - (a : Int) by omega]
          exact k'
      · rw [if_pos z] at k
        refine am_run 400 ?_; simp (disch := omega) only [ow_110, rt_110, rn_110_30, rn_110_33, rn_110_35, rn_110_37, rn_110_40, rn_110_41, rn_110_43, rn_110_46, rn_110_47, s_ivv, am_ivq_e, am_cvq_e, am_po_s, am_po_n, am_sl_n, am_sl_i, am_sl_r, am_sl_l, ml_7_111, cq_105, s_istore_5, am_kil_n, am_kil_i, am_kil_r, am_kil_l, s_iload_5, s_if1_eq, jm_37_10, s_aload_n_0, ml_7_115, cq_100, s_irt, am_irq_1, am_irq_2, s_bipush_60, Int.le_refl, am_c3, am_c4, am_c6, am_c7, am_c8, am_c9, am_c27, am_c60, am_c240, am_c418, am_c3500, am_up_s, am_up_n, am_uu, ne_eq, Nat.reduceAdd, Int.reduceAdd, Int.reduceNeg, Int.reduceLE, Int.reduceToNat, true_and, and_true, List.length_cons, List.length_nil, Nat.reduceLeDiff, Nat.zero_add, Nat.add_zero, Nat.le_refl, true_or, or_true, reduceCtorEq, false_implies, implies_true, true_implies, not_true_eq_false, not_false_eq_true, eq_self, Int.zero_add, Int.reduceEq, Nat.reduceEqDiff, ho]
        refine ⟨fun y => absurd y z, fun _ => ?_⟩
        refine sp_fails2 c0 (by omega) (fun h1 c1 f1 => ?_)
        refine am_run 400 ?_; simp (disch := omega) only [ow_110, rt_110, rn_110_30, rn_110_33, rn_110_35, rn_110_37, rn_110_40, rn_110_41, rn_110_43, rn_110_46, rn_110_47, s_ivv, am_ivq_e, am_cvq_e, am_po_s, am_po_n, am_sl_n, am_sl_i, am_sl_r, am_sl_l, ml_7_111, cq_105, s_istore_5, am_kil_n, am_kil_i, am_kil_r, am_kil_l, s_iload_5, s_if1_eq, jm_37_10, s_aload_n_0, ml_7_115, cq_100, s_irt, am_irq_1, am_irq_2, s_bipush_60, Int.le_refl, am_c3, am_c4, am_c6, am_c7, am_c8, am_c9, am_c27, am_c60, am_c240, am_c418, am_c3500, am_up_s, am_up_n, am_uu, ne_eq, Nat.reduceAdd, Int.reduceAdd, Int.reduceNeg, Int.reduceLE, Int.reduceToNat, true_and, and_true, List.length_cons, List.length_nil, Nat.reduceLeDiff, Nat.zero_add, Nat.add_zero, Nat.le_refl, true_or, or_true, reduceCtorEq, false_implies, implies_true, true_implies, not_true_eq_false, not_false_eq_true, eq_self, Int.zero_add, Int.reduceEq, Nat.reduceEqDiff]
        exact k h1 c1 (f0.tr f1)
    · rw [if_pos q1] at k
      refine am_run 400 ?_; simp (disch := omega) only [ow_110, rt_110, rn_110_0, rn_110_1, rn_110_2, rn_110_5, rn_110_6, rn_110_9, rn_110_12, rn_110_13, rn_110_14, rn_110_15, rn_110_18, rn_110_21, rn_110_23, rn_110_24, rn_110_25, rn_110_26, rn_110_27, rn_110_28, rn_110_30, rn_110_33, rn_110_35, rn_110_37, rn_110_40, rn_110_41, rn_110_43, rn_110_46, rn_110_47, s_aload_n_0, s_iconst_0, s_pf, am_pfq_e, am_fit_0, am_fit_1, am_fit_2, List.set_cons_zero, List.set_cons_succ, Nat.reduceLT, Bool.false_eq_true, Nat.lt_add_one, Nat.zero_lt_succ, fl_7_85, fk_7_0, ff_7_0, in_110, s_iload_n_1, s_ivs, am_isv_1, am_isv_3, am_isv_5, s_acp, am_cpq_e, am_po_s, am_po_n, am_sl_n, am_sl_i, am_sl_r, am_sl_l, ml_7_104, cq_103, s_if1_ne, jm_9_5, s_iconst_m1, s_irt, am_irq_1, am_irq_2, s_iload_n_2, ml_7_108, cq_104, jm_18_6, s_bipush_m2, s_iload_n_3, s_iload_4, s_ivv, am_ivq_e, am_cvq_e, ml_7_111, cq_105, s_istore_5, am_kil_n, am_kil_i, am_kil_r, am_kil_l, s_iload_5, s_if1_eq, jm_37_10, ml_7_115, cq_100, s_bipush_60, Int.le_refl, am_c3, am_c4, am_c6, am_c7, am_c8, am_c9, am_c27, am_c60, am_c240, am_c418, am_c3500, am_up_s, am_up_n, am_uu, ne_eq, Nat.reduceAdd, Int.reduceAdd, Int.reduceNeg, Int.reduceLE, Int.reduceToNat, true_and, and_true, List.length_cons, List.length_nil, Nat.reduceLeDiff, Nat.zero_add, Nat.add_zero, Nat.le_refl, true_or, or_true, reduceCtorEq, false_implies, implies_true, true_implies, not_true_eq_false, not_false_eq_true, eq_self, Int.zero_add, Int.reduceEq, Nat.reduceEqDiff]
      exact k _ c0 f0
  · rw [if_pos q] at k
    refine am_run 400 ?_; simp (disch := omega) only [ow_110, rt_110, rn_110_0, rn_110_1, rn_110_2, rn_110_5, rn_110_6, rn_110_9, rn_110_12, rn_110_13, rn_110_14, rn_110_15, rn_110_18, rn_110_21, rn_110_23, rn_110_24, rn_110_25, rn_110_26, rn_110_27, rn_110_28, rn_110_30, rn_110_33, rn_110_35, rn_110_37, rn_110_40, rn_110_41, rn_110_43, rn_110_46, rn_110_47, s_aload_n_0, s_iconst_0, s_pf, am_pfq_e, am_fit_0, am_fit_1, am_fit_2, List.set_cons_zero, List.set_cons_succ, Nat.reduceLT, Bool.false_eq_true, Nat.lt_add_one, Nat.zero_lt_succ, fl_7_85, fk_7_0, ff_7_0, in_110, s_iload_n_1, s_ivs, am_isv_1, am_isv_3, am_isv_5, s_acp, am_cpq_e, am_po_s, am_po_n, am_sl_n, am_sl_i, am_sl_r, am_sl_l, ml_7_104, cq_103, s_if1_ne, jm_9_5, s_iconst_m1, s_irt, am_irq_1, am_irq_2, s_iload_n_2, ml_7_108, cq_104, jm_18_6, s_bipush_m2, s_iload_n_3, s_iload_4, s_ivv, am_ivq_e, am_cvq_e, ml_7_111, cq_105, s_istore_5, am_kil_n, am_kil_i, am_kil_r, am_kil_l, s_iload_5, s_if1_eq, jm_37_10, ml_7_115, cq_100, s_bipush_60, Int.le_refl, am_c3, am_c4, am_c6, am_c7, am_c8, am_c9, am_c27, am_c60, am_c240, am_c418, am_c3500, am_up_s, am_up_n, am_uu, ne_eq, Nat.reduceAdd, Int.reduceAdd, Int.reduceNeg, Int.reduceLE, Int.reduceToNat, true_and, and_true, List.length_cons, List.length_nil, Nat.reduceLeDiff, Nat.zero_add, Nat.add_zero, Nat.le_refl, true_or, or_true, reduceCtorEq, false_implies, implies_true, true_implies, not_true_eq_false, not_false_eq_true, eq_self, Int.zero_add, Int.reduceEq, Nat.reduceEqDiff]
    exact k _ c0 f0
end
