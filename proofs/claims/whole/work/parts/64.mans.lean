/-! MODEL 5: answers -/
def AR (h : am_H) (is lk rw st : List Int) : Prop := h 77 = aC is ∧ h 78 = aC lk ∧ h 79 = aC rw ∧ h 80 = aC st ∧ is.length = 6 ∧ lk.length = 6 ∧ rw.length = 3500 ∧ st.length = 3500
def FrA (h h' : am_H) : Prop := ∀ q, q ≠ 58 → q < 77 ∨ 80 < q → h' q = h q
theorem FrA.rf {h : am_H} : FrA h h := fun _ _ _ => rfl
theorem FrA.tr {h h' h'' : am_H} (a : FrA h h') (b : FrA h' h'') : FrA h h'' := fun q h1 h2 => (b q h1 h2).trans (a q h1 h2)
theorem FrA.up {h h' : am_H} {q : Nat} {c : am_C} (a : FrA h h') (h1 : q = 58 ∨ 77 ≤ q ∧ q ≤ 80) : FrA h (am_up h' q c) := fun r r1 r2 => by rw [am_up_n (by omega)]; exact a r r1 r2
section
variable {d n : Nat} {h : am_H} {K : am_K} {fns : List FnT} {tms : List TmT} {gs : List Int} {ft tr fc tc pt rf st an vs lp wa ws wt wv wl rc : Int} {is lk rw sp : List Int}
theorem sp_toTheEnd2 {m x : Int} {j : Nat} (ho : h 58 = mO ft tr fc tc pt rf j an vs lp wa ws wt wv wl rc) (a : AR h is lk rw sp) (hj : j < 3500) (k : ∀ h', FrA h h' → h' 58 = mO ft tr fc tc pt rf ((j + 1 : Nat) : Int) an vs lp wa ws wt wv wl rc → AR h' is lk (rw.set j m) (sp.set j x) → K none n h') : am_M (d + 1) 132 [rV 58, iV m, iV x] n h K := by
  obtain ⟨a1, a2, a3, a4, a5, a6, a7, a8⟩ := a
  refine sp_toTheEnd ho a3 a4 a7 a8 hj (k _ (((FrA.rf.up (by omega)).up (by omega)).up (by omega)) am_up_s ⟨?_, ?_, ?_, ?_, a5, a6, by simpa using a7, by simpa using a8⟩)
  · rw [am_up_n (by omega), am_up_n (by omega), am_up_n (by omega)]; exact a1
  · rw [am_up_n (by omega), am_up_n (by omega), am_up_n (by omega)]; exact a2
  · rw [am_up_n (by omega), am_up_n (by omega), am_up_s]
  · rw [am_up_n (by omega), am_up_s]
theorem sp_findTerms2 {la : Nat} {m : Int} (ho : h 58 = mO ft tr fc tc pt rf st an vs lp wa ws wt wv wl rc) (hW : MW h fns tms gs) (hwf : WF fns tms) (hla : la < tms.length) (hp : ∀ t, t < 6 → mpk m t ≠ 3) (a : AR h is lk rw sp)
    (k : ∀ h' is' lk', FrA h h' → h' 58 = mO ft tr fc tc pt rf st an vs lp wa ws wt wv wl rc → AR h' is' lk' rw sp → is'.getD la 0 = mc (mev fns tms la m).1 → lk'.getD la 0 = (mev fns tms la m).2 → K none n h') : am_M (d + 4) 127 [rV 58, iV la, iV m] n h K := by
  obtain ⟨a1, a2, a3, a4, a5, a6, a7, a8⟩ := a
  refine sp_findTerms ho hW hwf hla hp a1 a2 a5 a6 (fun is' lk' l1 l2 hh => k _ is' lk' ((FrA.rf.up (by omega)).up (by omega)) (by rw [am_up_n (by omega), am_up_n (by omega)]; exact ho) ⟨?_, am_up_s, ?_, ?_, l1, l2, a7, a8⟩ (hh la (Nat.le_refl _)).1 (hh la (Nat.le_refl _)).2)
  · rw [am_up_n (by omega), am_up_s]
  · rw [am_up_n (by omega), am_up_n (by omega)]; exact a3
  · rw [am_up_n (by omega), am_up_n (by omega)]; exact a4
set_option maxRecDepth 100000 in
theorem sp_isAnswer {t j : Nat} (ho : h 58 = mO ft tr fc tms.length pt rf st an vs lp wa ws wt wv wl rc) (hM : MF h fns) (hT : MT h tms) (l3 : fns.length ≤ 3) (l6 : tms.length ≤ 6) (hwf : WF fns tms) (a : AR h is lk rw sp) (ht : t < 6) (hj : j < 3500) (hn : 0 ≤ an ∧ an ≤ 3500) (hv : 0 ≤ is.getD t 0 ∧ is.getD t 0 < 3)
    (k : ∀ h', FrA h h' → h' 58 = mO ft tr fc tms.length pt rf st (an + 1) (am_or vs (am_shl 1 (is.getD t 0))) (if lp = -9 then prc fns tms (lk.getD t 0) else if lp ≤ prc fns tms (lk.getD t 0) then lp else prc fns tms (lk.getD t 0)) wa (if an = wa then rw.getD j 0 else ws) (if an = wa then sp.getD j 0 else wt) (if an = wa then is.getD t 0 else wv) (if an = wa then lk.getD t 0 else wl) rc → AR h' is lk rw sp → K none n h') : am_M (d + 3) 133 [rV 58, iV t, iV j] n h K := by
  obtain ⟨a1, a2, a3, a4, a5, a6, a7, a8⟩ := id a
  refine en_133 (am_run 400 ?_); simp (disch := omega) only [ow_133, rt_133, rn_133_0, rn_133_1, rn_133_2, rn_133_5, rn_133_6, rn_133_7, rn_133_10, rn_133_11, rn_133_12, rn_133_13, rn_133_16, rn_133_18, rn_133_21, rn_133_22, rn_133_23, rn_133_26, rn_133_29, rn_133_30, rn_133_33, rn_133_34, rn_133_37, rn_133_40, rn_133_41, rn_133_42, rn_133_45, rn_133_46, rn_133_47, rn_133_50, rn_133_51, rn_133_52, rn_133_53, rn_133_54, rn_133_57, rn_133_58, rn_133_61, rn_133_62, rn_133_65, rn_133_68, rn_133_69, rn_133_70, rn_133_73, rn_133_74, rn_133_75, rn_133_78, rn_133_79, rn_133_80, rn_133_83, rn_133_84, rn_133_85, rn_133_88, rn_133_89, rn_133_90, rn_133_93, rn_133_94, rn_133_95, rn_133_98, rn_133_99, rn_133_100, rn_133_103, rn_133_104, rn_133_105, rn_133_108, rn_133_109, rn_133_110, rn_133_113, rn_133_114, rn_133_115, rn_133_118, s_aload_n_0, s_gf, am_gfq_e, am_nth_0, am_nth_s, fl_7_67, s_iload_n_1, s_iald, am_iaq_e, s_ivv, am_ivq_e, am_cvq_e, am_po_s, am_po_n, am_sl_n, am_sl_i, am_sl_r, am_sl_l, ml_7_179, cq_131, s_istore_n_3, am_kil_n, am_kil_i, am_kil_r, am_kil_l, fl_7_182, s_bipush_m9, s_if2_eq, jm_18_11, s_iload_n_3, s_if2_ge, jm_26_7, s_goto, jm_30_7, s_pf, am_pfq_e, am_fit_0, am_fit_1, am_fit_2, List.set_cons_zero, List.set_cons_succ, Nat.reduceLT, Bool.false_eq_true, Nat.lt_add_one, Nat.zero_lt_succ, fk_7_31, ff_7_31, in_133, s_dup_i, s_dup_r, fl_7_185, s_iconst_1, fl_7_64, s_ishl, s_ior, fk_7_30, ff_7_30, fl_7_188, fl_7_191, s_if2_ne, jm_65_43, fl_7_70, s_iload_n_2, fl_7_194, fk_7_33, ff_7_33, fl_7_73, fl_7_197, fk_7_34, ff_7_34, fl_7_200, fk_7_35, ff_7_35, fl_7_203, fk_7_36, ff_7_36, s_iadd, fk_7_29, ff_7_29, s_vrt, am_orq_e, Int.le_refl, am_c3, am_c4, am_c6, am_c7, am_c8, am_c9, am_c27, am_c60, am_c240, am_c418, am_c3500, am_up_s, am_up_n, am_uu, ne_eq, Nat.reduceAdd, Int.reduceAdd, Int.reduceNeg, Int.reduceLE, Int.reduceToNat, true_and, and_true, List.length_cons, List.length_nil, Nat.reduceLeDiff, Nat.zero_add, Nat.add_zero, Nat.le_refl, true_or, or_true, reduceCtorEq, false_implies, implies_true, true_implies, not_true_eq_false, not_false_eq_true, eq_self, Int.zero_add, Int.reduceEq, Nat.reduceEqDiff, ho, a2, a6, Int.toNat_natCast]
  refine ⟨by omega, sp_priceOf ho hM hT l3 l6 hwf ?_⟩
  generalize prc fns tms (lk.getD t 0) = p at *
  refine am_run 400 ?_; simp (disch := omega) only [ow_133, rt_133, rn_133_0, rn_133_1, rn_133_2, rn_133_5, rn_133_6, rn_133_7, rn_133_10, rn_133_11, rn_133_12, rn_133_13, rn_133_16, rn_133_18, rn_133_21, rn_133_22, rn_133_23, rn_133_26, rn_133_29, rn_133_30, rn_133_33, rn_133_34, rn_133_37, rn_133_40, rn_133_41, rn_133_42, rn_133_45, rn_133_46, rn_133_47, rn_133_50, rn_133_51, rn_133_52, rn_133_53, rn_133_54, rn_133_57, rn_133_58, rn_133_61, rn_133_62, rn_133_65, rn_133_68, rn_133_69, rn_133_70, rn_133_73, rn_133_74, rn_133_75, rn_133_78, rn_133_79, rn_133_80, rn_133_83, rn_133_84, rn_133_85, rn_133_88, rn_133_89, rn_133_90, rn_133_93, rn_133_94, rn_133_95, rn_133_98, rn_133_99, rn_133_100, rn_133_103, rn_133_104, rn_133_105, rn_133_108, rn_133_109, rn_133_110, rn_133_113, rn_133_114, rn_133_115, rn_133_118, s_aload_n_0, s_gf, am_gfq_e, am_nth_0, am_nth_s, fl_7_67, s_iload_n_1, s_iald, am_iaq_e, s_ivv, am_ivq_e, am_cvq_e, am_po_s, am_po_n, am_sl_n, am_sl_i, am_sl_r, am_sl_l, ml_7_179, cq_131, s_istore_n_3, am_kil_n, am_kil_i, am_kil_r, am_kil_l, fl_7_182, s_bipush_m9, s_if2_eq, jm_18_11, s_iload_n_3, s_if2_ge, jm_26_7, s_goto, jm_30_7, s_pf, am_pfq_e, am_fit_0, am_fit_1, am_fit_2, List.set_cons_zero, List.set_cons_succ, Nat.reduceLT, Bool.false_eq_true, Nat.lt_add_one, Nat.zero_lt_succ, fk_7_31, ff_7_31, in_133, s_dup_i, s_dup_r, fl_7_185, s_iconst_1, fl_7_64, s_ishl, s_ior, fk_7_30, ff_7_30, fl_7_188, fl_7_191, s_if2_ne, jm_65_43, fl_7_70, s_iload_n_2, fl_7_194, fk_7_33, ff_7_33, fl_7_73, fl_7_197, fk_7_34, ff_7_34, fl_7_200, fk_7_35, ff_7_35, fl_7_203, fk_7_36, ff_7_36, s_iadd, fk_7_29, ff_7_29, s_vrt, am_orq_e, Int.le_refl, am_c3, am_c4, am_c6, am_c7, am_c8, am_c9, am_c27, am_c60, am_c240, am_c418, am_c3500, am_up_s, am_up_n, am_uu, ne_eq, Nat.reduceAdd, Int.reduceAdd, Int.reduceNeg, Int.reduceLE, Int.reduceToNat, true_and, and_true, List.length_cons, List.length_nil, Nat.reduceLeDiff, Nat.zero_add, Nat.add_zero, Nat.le_refl, true_or, or_true, reduceCtorEq, false_implies, implies_true, true_implies, not_true_eq_false, not_false_eq_true, eq_self, Int.zero_add, Int.reduceEq, Nat.reduceEqDiff, ho, a1, a2, a3, a4, a5, a6, a7, a8, Int.toNat_natCast]
  rw [wr_ok (by omega) (by omega)]
  have fin : ∀ c, mO ft tr fc tms.length pt rf st (an + 1) (am_or vs (am_shl 1 (is.getD t 0))) (if lp = -9 then p else if lp ≤ p then lp else p) wa (if an = wa then rw.getD j 0 else ws) (if an = wa then sp.getD j 0 else wt) (if an = wa then is.getD t 0 else wv) (if an = wa then lk.getD t 0 else wl) rc = c → K none n (am_up h 58 c) := by
    intro c e
    subst e
    refine k _ (FrA.rf.up (by omega)) am_up_s ⟨?_, ?_, ?_, ?_, a5, a6, a7, a8⟩
    · rw [am_up_n (by omega)]; exact a1
    · rw [am_up_n (by omega)]; exact a2
    · rw [am_up_n (by omega)]; exact a3
    · rw [am_up_n (by omega)]; exact a4
  refine ⟨fun y => ⟨by omega, fun z => fin _ ?_, fun z => ⟨by omega, by omega, by omega, by omega, fin _ ?_⟩⟩, fun y => ⟨fun y1 => ⟨by omega, fun z => fin _ ?_, fun z => ⟨by omega, by omega, by omega, by omega, fin _ ?_⟩⟩, fun y1 => ⟨by omega, fun z => fin _ ?_, fun z => ⟨by omega, by omega, by omega, by omega, fin _ ?_⟩⟩⟩⟩
  · rw [if_pos y, if_neg z, if_neg z, if_neg z, if_neg z]
  · rw [if_pos y, if_pos z, if_pos z, if_pos z, if_pos z]
  · rw [if_neg y, if_pos y1, if_neg z, if_neg z, if_neg z, if_neg z]
  · rw [if_neg y, if_pos y1, if_pos z, if_pos z, if_pos z, if_pos z]
  · rw [if_neg y, if_neg y1, if_neg z, if_neg z, if_neg z, if_neg z]
  · rw [if_neg y, if_neg y1, if_pos z, if_pos z, if_pos z, if_pos z]
end
