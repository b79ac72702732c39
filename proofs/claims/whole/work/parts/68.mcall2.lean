/-! MODEL 9: answer -/
theorem bt_ext {a b : Int} (ha : inR a) (hb : inR b) (h : ∀ i, i < 32 → bt a i = bt b i) : a = b := by
  have : Int32.ofInt a = Int32.ofInt b := by
    rw [← Int32.toBitVec_inj]
    exact BitVec.eq_of_getLsbD_eq (fun i hi => h i hi)
  rw [← sd_tI ha, ← sd_tI hb, this]
theorem or_in (a b : Int) : inR (am_or a b) := sd_I_in _
theorem and_in (a b : Int) : inR (am_and a b) := sd_I_in _
/-- terms that have picked -/
def pks (m l : Int) : Nat → Int
  | 0 => 0
  | t + 1 => am_or (pks m l t) (if l ≤ mpk m t then am_shl 1 t else 0)
theorem pks_in {m l : Int} : ∀ t, inR (pks m l t)
  | 0 => by unfold pks inR; omega
  | t + 1 => or_in _ _
theorem bt_0 : ∀ i : Fin 32, bt 0 i.val = false := by decide +kernel
theorem bt_s1 : ∀ (t : Fin 6) (i : Fin 32), bt (am_shl 1 (t.val : Int)) i.val = decide (i.val = t.val) := by decide +kernel
theorem pks_bt {m l : Int} {i : Nat} (hi : i < 32) : ∀ t, t ≤ 6 → bt (pks m l t) i = decide (i < t ∧ l ≤ mpk m i)
  | 0, _ => by
    rw [pks, bt_0 ⟨i, hi⟩]
    simp
  | t + 1, ht => by
    rw [pks, bt_or, pks_bt hi t (by omega)]
    by_cases q : l ≤ mpk m t
    · rw [if_pos q, bt_s1 ⟨t, by omega⟩ ⟨i, hi⟩]
      by_cases e : i = t
      · subst e
        simp [q]
      · simp [e, show i < t + 1 ↔ i < t by omega]
    · rw [if_neg q, bt_0 ⟨i, hi⟩, Bool.or_false]
      by_cases e : i = t
      · subst e
        simp [q]
      · simp [show i < t + 1 ↔ i < t by omega]
theorem pks_1 {gs : List Int} {s m : Int} {c : Nat} (a : SR s m) (si : SI gs c s) (hc : c ≤ 6) : pks m 1 c = st_picked s := by
  refine bt_ext (pks_in c) (and_in _ _) (fun i hi => ?_)
  rw [pks_bt hi c hc]
  by_cases q : i < 6
  · rw [picked_i q, a.2 i q, cpk_bt q]
    by_cases z : i < c
    · cases bt s (6 + i) <;> cases bt s (12 + i) <;> simp [z]
    · rw [si.2.2 i (by omega) q]
      simp [z]
  · unfold st_picked
    rw [bt_and, bt_63 ⟨i, hi⟩]
    simp [q, show ¬ i < c by omega]
theorem pks_2 {gs : List Int} {s m : Int} {c : Nat} (a : SR s m) (si : SI gs c s) (hc : c ≤ 6) : pks m 2 c = st_second s := by
  refine bt_ext (pks_in c) (and_in _ _) (fun i hi => ?_)
  rw [pks_bt hi c hc]
  by_cases q : i < 6
  · rw [second_i q, a.2 i q, cpk_bt q]
    by_cases z : i < c
    · have := si.1 i q
      revert this
      cases bt s (6 + i) <;> cases bt s (12 + i) <;> simp [z]
    · rw [si.1 i q (si.2.2 i (by omega) q)]
      simp [z]
  · unfold st_second
    rw [bt_and, bt_63 ⟨i, hi⟩]
    simp [q, show ¬ i < c by omega]
theorem row1_SI {fns : List FnT} {tms : List TmT} {gs : List Int} {t : Nat} {s : Int} (hwf : WF fns tms) (hl : tms.length ≤ 6) (ht : t < tms.length) (hg : GS gs) (hs : s ∈ row1 fns tms gs t) : SI gs tms.length s := by
  unfold row1 rowL at hs
  generalize 418 = z at hs
  exact rwL_SI hwf hl ht (st0_SI hg tms.length) z s hs
section
variable {d n : Nat} {h : am_H} {K : am_K} {P : PS}
theorem lp_picks {ft tr fc pt rf st an vs lp wa ws wt wv wl rc l : Int} {tc : Nat} (h6 : tc ≤ 6) (ho : h 58 = mO ft tr fc tc pt rf st an vs lp wa ws wt wv wl rc) (k : K (some (iV (pks ws l tc))) n h) : ∀ (kk t : Nat), t + kk = tc → am_W 136 n (am_M (d + 1)) K 4 [some (rV 58), some (iV l), some (iV (pks ws l t)), some (iV t)] [] n h := by
  intro kk
  induction kk with
  | zero =>
    intro t ht
    obtain rfl : t = tc := by omega
    refine am_runH 400 ?_; simp (disch := omega) only [ow_136, rt_136, rn_136_0, rn_136_1, rn_136_2, rn_136_3, rn_136_4, rf_136_4, rn_136_5, rn_136_6, rn_136_9, rn_136_12, rn_136_13, rn_136_14, rn_136_17, rn_136_18, rn_136_21, rn_136_22, rn_136_25, rn_136_26, rn_136_27, rn_136_28, rn_136_31, rn_136_32, rn_136_33, rn_136_34, rn_136_37, rn_136_40, rn_136_41, s_iconst_0, s_istore_n_2, am_kil_n, am_kil_i, am_kil_r, am_kil_l, s_istore_n_3, s_iload_n_3, s_aload_n_0, s_gf, am_gfq_e, am_nth_0, am_nth_s, fl_7_98, s_if2_ge, jm_9_31, s_iload_n_2, fl_7_194, s_ivs, am_isv_1, am_isv_3, am_isv_5, s_acp, am_cpq_e, am_po_s, am_po_n, am_sl_n, am_sl_i, am_sl_r, am_sl_l, ml_7_162, cq_124, s_iload_n_1, s_if2_lt, jm_22_9, s_iconst_1, s_ishl, s_goto, jm_28_4, s_ior, s_iinc_3, jm_37_m33, s_irt, am_irq_1, am_irq_2, Int.le_refl, am_c3, am_c4, am_c6, am_c7, am_c8, am_c9, am_c27, am_c60, am_c240, am_c418, am_c3500, am_up_s, am_up_n, am_uu, ne_eq, Nat.reduceAdd, Int.reduceAdd, Int.reduceNeg, Int.reduceLE, Int.reduceToNat, true_and, and_true, List.length_cons, List.length_nil, Nat.reduceLeDiff, Nat.zero_add, Nat.add_zero, Nat.le_refl, true_or, or_true, reduceCtorEq, false_implies, implies_true, true_implies, not_true_eq_false, not_false_eq_true, eq_self, Int.zero_add, Int.reduceEq, Nat.reduceEqDiff, ho]
    exact k
  | succ kk ih =>
    intro t ht
    have nx := ih (t + 1) (by omega)
    rw [pks] at nx
    refine am_runH 400 ?_; simp (disch := omega) only [ow_136, rt_136, rn_136_0, rn_136_1, rn_136_2, rn_136_3, rn_136_4, rf_136_4, rn_136_5, rn_136_6, rn_136_9, rn_136_12, rn_136_13, rn_136_14, rn_136_17, rn_136_18, rn_136_21, rn_136_22, rn_136_25, rn_136_26, rn_136_27, rn_136_28, rn_136_31, rn_136_32, rn_136_33, rn_136_34, rn_136_37, rn_136_40, rn_136_41, s_iconst_0, s_istore_n_2, am_kil_n, am_kil_i, am_kil_r, am_kil_l, s_istore_n_3, s_iload_n_3, s_aload_n_0, s_gf, am_gfq_e, am_nth_0, am_nth_s, fl_7_98, s_if2_ge, jm_9_31, s_iload_n_2, fl_7_194, s_ivs, am_isv_1, am_isv_3, am_isv_5, s_acp, am_cpq_e, am_po_s, am_po_n, am_sl_n, am_sl_i, am_sl_r, am_sl_l, ml_7_162, cq_124, s_iload_n_1, s_if2_lt, jm_22_9, s_iconst_1, s_ishl, s_goto, jm_28_4, s_ior, s_iinc_3, jm_37_m33, s_irt, am_irq_1, am_irq_2, Int.le_refl, am_c3, am_c4, am_c6, am_c7, am_c8, am_c9, am_c27, am_c60, am_c240, am_c418, am_c3500, am_up_s, am_up_n, am_uu, ne_eq, Nat.reduceAdd, Int.reduceAdd, Int.reduceNeg, Int.reduceLE, Int.reduceToNat, true_and, and_true, List.length_cons, List.length_nil, Nat.reduceLeDiff, Nat.zero_add, Nat.add_zero, Nat.le_refl, true_or, or_true, reduceCtorEq, false_implies, implies_true, true_implies, not_true_eq_false, not_false_eq_true, eq_self, Int.zero_add, Int.reduceEq, Nat.reduceEqDiff, ho]
    refine ⟨fun q => by omega, fun _ => ?_⟩
    refine sp_pickedIn ?_
    refine am_run 400 ?_; simp (disch := omega) only [ow_136, rt_136, rn_136_0, rn_136_1, rn_136_2, rn_136_3, rn_136_4, rf_136_4, rn_136_5, rn_136_6, rn_136_9, rn_136_12, rn_136_13, rn_136_14, rn_136_17, rn_136_18, rn_136_21, rn_136_22, rn_136_25, rn_136_26, rn_136_27, rn_136_28, rn_136_31, rn_136_32, rn_136_33, rn_136_34, rn_136_37, rn_136_40, rn_136_41, s_iconst_0, s_istore_n_2, am_kil_n, am_kil_i, am_kil_r, am_kil_l, s_istore_n_3, s_iload_n_3, s_aload_n_0, s_gf, am_gfq_e, am_nth_0, am_nth_s, fl_7_98, s_if2_ge, jm_9_31, s_iload_n_2, fl_7_194, s_ivs, am_isv_1, am_isv_3, am_isv_5, s_acp, am_cpq_e, am_po_s, am_po_n, am_sl_n, am_sl_i, am_sl_r, am_sl_l, ml_7_162, cq_124, s_iload_n_1, s_if2_lt, jm_22_9, s_iconst_1, s_ishl, s_goto, jm_28_4, s_ior, s_iinc_3, jm_37_m33, s_irt, am_irq_1, am_irq_2, Int.le_refl, am_c3, am_c4, am_c6, am_c7, am_c8, am_c9, am_c27, am_c60, am_c240, am_c418, am_c3500, am_up_s, am_up_n, am_uu, ne_eq, Nat.reduceAdd, Int.reduceAdd, Int.reduceNeg, Int.reduceLE, Int.reduceToNat, true_and, and_true, List.length_cons, List.length_nil, Nat.reduceLeDiff, Nat.zero_add, Nat.add_zero, Nat.le_refl, true_or, or_true, reduceCtorEq, false_implies, implies_true, true_implies, not_true_eq_false, not_false_eq_true, eq_self, Int.zero_add, Int.reduceEq, Nat.reduceEqDiff, am_i1]
    refine ⟨fun q => ?_, fun q => ?_⟩
    · first | (rw [if_neg (by omega)] at nx; exact nx) | (rw [if_pos (by omega)] at nx; exact nx)
    · first | (rw [if_neg (by omega)] at nx; exact nx) | (rw [if_pos (by omega)] at nx; exact nx)
theorem sp_picks {ft tr fc pt rf st an vs lp wa ws wt wv wl rc l : Int} {tc : Nat} (h6 : tc ≤ 6) (ho : h 58 = mO ft tr fc tc pt rf st an vs lp wa ws wt wv wl rc) (k : K (some (iV (pks ws l tc))) n h) : am_M (d + 2) 136 [rV 58, iV l] n h K := by
  refine en_136 (am_run 400 ?_); simp (disch := omega) only [ow_136, rt_136, rn_136_0, rn_136_1, rn_136_2, rn_136_3, rn_136_4, rf_136_4, rn_136_5, rn_136_6, rn_136_9, rn_136_12, rn_136_13, rn_136_14, rn_136_17, rn_136_18, rn_136_21, rn_136_22, rn_136_25, rn_136_26, rn_136_27, rn_136_28, rn_136_31, rn_136_32, rn_136_33, rn_136_34, rn_136_37, rn_136_40, rn_136_41, s_iconst_0, s_istore_n_2, am_kil_n, am_kil_i, am_kil_r, am_kil_l, s_istore_n_3, s_iload_n_3, s_aload_n_0, s_gf, am_gfq_e, am_nth_0, am_nth_s, fl_7_98, s_if2_ge, jm_9_31, s_iload_n_2, fl_7_194, s_ivs, am_isv_1, am_isv_3, am_isv_5, s_acp, am_cpq_e, am_po_s, am_po_n, am_sl_n, am_sl_i, am_sl_r, am_sl_l, ml_7_162, cq_124, s_iload_n_1, s_if2_lt, jm_22_9, s_iconst_1, s_ishl, s_goto, jm_28_4, s_ior, s_iinc_3, jm_37_m33, s_irt, am_irq_1, am_irq_2, Int.le_refl, am_c3, am_c4, am_c6, am_c7, am_c8, am_c9, am_c27, am_c60, am_c240, am_c418, am_c3500, am_up_s, am_up_n, am_uu, ne_eq, Nat.reduceAdd, Int.reduceAdd, Int.reduceNeg, Int.reduceLE, Int.reduceToNat, true_and, and_true, List.length_cons, List.length_nil, Nat.reduceLeDiff, Nat.zero_add, Nat.add_zero, Nat.le_refl, true_or, or_true, reduceCtorEq, false_implies, implies_true, true_implies, not_true_eq_false, not_false_eq_true, eq_self, Int.zero_add, Int.reduceEq, Nat.reduceEqDiff]
  exact lp_picks h6 ho k tc 0 (by omega)
theorem plc_ct {e : Int → Int × Int} {L : List Int} {c : Int} (h0 : 0 ≤ c) : ∀ m, (∃ i, plc e L c m = some i) ↔ c < fo (fCt e) 0 L m
  | 0 => by
    show (∃ i, none = some i) ↔ c < 0
    constructor
    · rintro ⟨i, hi⟩; cases hi
    · intro hh; omega
  | m + 1 => by
    have ih := plc_ct (e := e) (L := L) h0 m
    rw [plc, fo_s]
    by_cases q : (e (L.getD m 0)).1 < 3
    · rw [fCt_1 q]
      cases z : plc e L c m with
      | some i =>
        have := ih.1 ⟨i, z⟩
        exact ⟨fun _ => by omega, fun _ => ⟨i, rfl⟩⟩
      | none =>
        have : ¬ c < fo (fCt e) 0 L m := fun w => by
          obtain ⟨i, hi⟩ := ih.2 w
          rw [z] at hi; cases hi
        by_cases w : fo (fCt e) 0 L m = c
        · dsimp only
          rw [if_pos ⟨q, w⟩]
          exact ⟨fun _ => by omega, fun _ => ⟨m, rfl⟩⟩
        · dsimp only
          rw [if_neg (fun y => w y.2)]
          constructor
          · rintro ⟨i, hi⟩; cases hi
          · intro y; omega
    · rw [fCt_0 q]
      cases z : plc e L c m with
      | some i =>
        have := ih.1 ⟨i, z⟩
        exact ⟨fun _ => this, fun _ => ⟨i, rfl⟩⟩
      | none =>
        dsimp only
        rw [if_neg (fun y => q y.1), ← ih, z]
theorem ml_answer {t c0 w : Int} (hw : inR w) (pv : PV P) (c : MR h P) (k : ∀ h', MR h' P → FrM h h' → K (some (iV (op_answer P t c0 w))) n h') : am_M (d + 6) 137 [rV 58, iV t, iV c0, iV w] n h K := by
  obtain ⟨pt, rf, st, an, vs, lp, wa, ws, wt, wv, wl, ho⟩ := c.ob
  obtain ⟨is, lk, rw, sp, ar⟩ := c.ar
  have l6 := pv.lt
  unfold op_answer at k
  refine en_137 (am_run 400 ?_); simp (disch := omega) only [ow_137, rt_137, rn_137_0, rn_137_1, rn_137_2, rn_137_5, rn_137_8, rn_137_9, rn_137_10, rn_137_11, rn_137_14, rn_137_15, rn_137_16, rn_137_17, rn_137_20, rn_137_23, rn_137_24, rn_137_26, rn_137_28, rn_137_31, rn_137_34, rn_137_36, rn_137_37, rn_137_38, rn_137_39, rn_137_40, rn_137_43, rn_137_44, rn_137_45, rn_137_48, rn_137_51, rn_137_53, rn_137_54, rn_137_55, rn_137_57, rn_137_60, rn_137_61, rn_137_64, rn_137_65, rn_137_67, rn_137_68, rn_137_71, rn_137_72, rn_137_73, rn_137_108, rn_137_109, rn_137_112, rn_137_113, rn_137_114, rn_137_117, rn_137_118, rn_137_119, rn_137_120, rn_137_123, rn_137_126, rn_137_127, rn_137_128, rn_137_131, rn_137_132, rn_137_133, rn_137_134, rn_137_137, rn_137_138, rn_137_139, rn_137_140, rn_137_143, s_aload_n_0, s_iload_n_1, s_ivv, am_ivq_e, am_cvq_e, am_po_s, am_po_n, am_sl_n, am_sl_i, am_sl_r, am_sl_l, ml_7_151, cq_107, s_if1_ne, jm_5_5, s_iconst_m1, s_irt, am_irq_1, am_irq_2, s_iload_n_2, s_if1_lt, jm_11_23, s_iload_n_3, s_iconst_0, s_iconst_5, s_ivs, am_isv_1, am_isv_3, am_isv_5, s_acp, am_cpq_e, ml_7_91, cq_102, jm_20_17, s_bipush_10, s_bipush_12, jm_31_6, s_bipush_m2, ml_7_212, cq_134, s_gf, am_gfq_e, am_nth_0, am_nth_s, fl_7_188, s_if2_lt, jm_48_6, s_bipush_m9, jm_57_15, fl_7_194, s_isub, ml_7_154, cq_123, s_tsw, am_swT_n, am_swT_c, List.toList_toArray, Int.reduceSub, jm_73_35, jm_73_40, jm_73_45, jm_73_54, jm_73_59, jm_73_65, fl_7_200, fl_7_197, fl_7_203, ml_7_179, cq_131, s_iconst_1, ml_7_215, cq_136, s_iconst_2, Int.le_refl, am_c3, am_c4, am_c6, am_c7, am_c8, am_c9, am_c27, am_c60, am_c240, am_c418, am_c3500, am_up_s, am_up_n, am_uu, ne_eq, Nat.reduceAdd, Int.reduceAdd, Int.reduceNeg, Int.reduceLE, Int.reduceToNat, true_and, and_true, List.length_cons, List.length_nil, Nat.reduceLeDiff, Nat.zero_add, Nat.add_zero, Nat.le_refl, true_or, or_true, reduceCtorEq, false_implies, implies_true, true_implies, not_true_eq_false, not_false_eq_true, eq_self, Int.zero_add, Int.reduceEq, Nat.reduceEqDiff, ho]
  refine sp_isTerm ho (fun q => ?_) (fun q => ?_)
  · rw [if_neg (by omega)] at k
    have go : 0 ≤ c0 → ((0 ≤ w ∧ w < 6) ∨ (0 ≤ w - 10 ∧ w - 10 < 3)) → am_M (d + 5) 134 [rV 58, iV t, iV c0] n h (fun v n' h' => am_W 137 n (am_M (d + 5)) K 43 [some (rV 58), some (iV t), some (iV c0), some (iV w)] (am_po v []) n' h') := by
      intro g1 g2
      rw [if_neg (by omega)] at k
      obtain ⟨tn, rfl⟩ : ∃ tn : Nat, t = tn := ⟨t.toNat, by omega⟩
      rw [Int.toNat_natCast] at k
      refine sp_findAnswers ho (c.mw pv (pv.nn q)) pv.wf (by omega) pv.gs ar (fun h1 is1 lk1 rw1 sp1 ws1 wt1 wv1 wl1 f1 ho1 ar1 wi => ?_)
      have c1 := c.fra f1 ho1 ar1
      have k' := k h1 c1 f1.M
      have pc := plc_ct (e := evS P.fns P.tms tn) (L := row1 P.fns P.tms P.gs tn) g1 (row1 P.fns P.tms P.gs tn).length
      unfold ansR at k'
      refine am_run 400 ?_; simp (disch := omega) only [ow_137, rt_137, rn_137_0, rn_137_1, rn_137_2, rn_137_5, rn_137_8, rn_137_9, rn_137_10, rn_137_11, rn_137_14, rn_137_15, rn_137_16, rn_137_17, rn_137_20, rn_137_23, rn_137_24, rn_137_26, rn_137_28, rn_137_31, rn_137_34, rn_137_36, rn_137_37, rn_137_38, rn_137_39, rn_137_40, rn_137_43, rn_137_44, rn_137_45, rn_137_48, rn_137_51, rn_137_53, rn_137_54, rn_137_55, rn_137_57, rn_137_60, rn_137_61, rn_137_64, rn_137_65, rn_137_67, rn_137_68, rn_137_71, rn_137_72, rn_137_73, rn_137_108, rn_137_109, rn_137_112, rn_137_113, rn_137_114, rn_137_117, rn_137_118, rn_137_119, rn_137_120, rn_137_123, rn_137_126, rn_137_127, rn_137_128, rn_137_131, rn_137_132, rn_137_133, rn_137_134, rn_137_137, rn_137_138, rn_137_139, rn_137_140, rn_137_143, s_aload_n_0, s_iload_n_1, s_ivv, am_ivq_e, am_cvq_e, am_po_s, am_po_n, am_sl_n, am_sl_i, am_sl_r, am_sl_l, ml_7_151, cq_107, s_if1_ne, jm_5_5, s_iconst_m1, s_irt, am_irq_1, am_irq_2, s_iload_n_2, s_if1_lt, jm_11_23, s_iload_n_3, s_iconst_0, s_iconst_5, s_ivs, am_isv_1, am_isv_3, am_isv_5, s_acp, am_cpq_e, ml_7_91, cq_102, jm_20_17, s_bipush_10, s_bipush_12, jm_31_6, s_bipush_m2, ml_7_212, cq_134, s_gf, am_gfq_e, am_nth_0, am_nth_s, fl_7_188, s_if2_lt, jm_48_6, s_bipush_m9, jm_57_15, fl_7_194, s_isub, ml_7_154, cq_123, s_tsw, am_swT_n, am_swT_c, List.toList_toArray, Int.reduceSub, jm_73_35, jm_73_40, jm_73_45, jm_73_54, jm_73_59, jm_73_65, fl_7_200, fl_7_197, fl_7_203, ml_7_179, cq_131, s_iconst_1, ml_7_215, cq_136, s_iconst_2, Int.le_refl, am_c3, am_c4, am_c6, am_c7, am_c8, am_c9, am_c27, am_c60, am_c240, am_c418, am_c3500, am_up_s, am_up_n, am_uu, ne_eq, Nat.reduceAdd, Int.reduceAdd, Int.reduceNeg, Int.reduceLE, Int.reduceToNat, true_and, and_true, List.length_cons, List.length_nil, Nat.reduceLeDiff, Nat.zero_add, Nat.add_zero, Nat.le_refl, true_or, or_true, reduceCtorEq, false_implies, implies_true, true_implies, not_true_eq_false, not_false_eq_true, eq_self, Int.zero_add, Int.reduceEq, Nat.reduceEqDiff, ho1]
      refine ⟨fun z => ?_, fun z => ?_⟩
      · obtain ⟨i, hi⟩ := pc.2 z
        obtain ⟨w1, w2, w3, w4⟩ := wi i hi
        have hil := (plc_some hi).1
        have si := row1_SI pv.wf l6 (by omega) pv.gs (gd_mem hil)
        rw [hi] at k'
        dsimp only at k'
        unfold ansS at k'
        have w2' : wt1 = sm 3 (bsc P.gs ((row1 P.fns P.tms P.gs tn).getD i 0)) + bits6 (st_picked ((row1 P.fns P.tms P.gs tn).getD i 0)) := w2
        rw [← w2', ← w3, ← w4, ← pks_1 w1 si l6, ← pks_2 w1 si l6] at k'
        have w1' := w1.1
        generalize (row1 P.fns P.tms P.gs tn).getD i 0 = s at *
        have hWm := c1.mw pv (pv.nn q)
        refine ⟨fun y => ?_, fun y => ?_⟩
        · refine ⟨rfl, fun z0 => ?_, fun z0 => ⟨fun z1 => ?_, fun z1 => ⟨fun z2 => ?_, fun z2 => ⟨fun z3 => ?_, fun z3 => ⟨fun z4 => ?_, fun z4 => ?_⟩⟩⟩⟩⟩
          · rw [if_pos z0] at k'; exact k'
          · rw [if_neg z0, if_pos z1] at k'; exact k'
          · rw [if_neg z0, if_neg z1, if_pos z2] at k'
            refine sp_priceOf (fns := P.fns) ho1 hWm.1 hWm.2.1 pv.lf l6 pv.wf ?_
            refine am_run 400 ?_; simp (disch := omega) only [ow_137, rt_137, rn_137_0, rn_137_1, rn_137_2, rn_137_5, rn_137_8, rn_137_9, rn_137_10, rn_137_11, rn_137_14, rn_137_15, rn_137_16, rn_137_17, rn_137_20, rn_137_23, rn_137_24, rn_137_26, rn_137_28, rn_137_31, rn_137_34, rn_137_36, rn_137_37, rn_137_38, rn_137_39, rn_137_40, rn_137_43, rn_137_44, rn_137_45, rn_137_48, rn_137_51, rn_137_53, rn_137_54, rn_137_55, rn_137_57, rn_137_60, rn_137_61, rn_137_64, rn_137_65, rn_137_67, rn_137_68, rn_137_71, rn_137_72, rn_137_73, rn_137_108, rn_137_109, rn_137_112, rn_137_113, rn_137_114, rn_137_117, rn_137_118, rn_137_119, rn_137_120, rn_137_123, rn_137_126, rn_137_127, rn_137_128, rn_137_131, rn_137_132, rn_137_133, rn_137_134, rn_137_137, rn_137_138, rn_137_139, rn_137_140, rn_137_143, s_aload_n_0, s_iload_n_1, s_ivv, am_ivq_e, am_cvq_e, am_po_s, am_po_n, am_sl_n, am_sl_i, am_sl_r, am_sl_l, ml_7_151, cq_107, s_if1_ne, jm_5_5, s_iconst_m1, s_irt, am_irq_1, am_irq_2, s_iload_n_2, s_if1_lt, jm_11_23, s_iload_n_3, s_iconst_0, s_iconst_5, s_ivs, am_isv_1, am_isv_3, am_isv_5, s_acp, am_cpq_e, ml_7_91, cq_102, jm_20_17, s_bipush_10, s_bipush_12, jm_31_6, s_bipush_m2, ml_7_212, cq_134, s_gf, am_gfq_e, am_nth_0, am_nth_s, fl_7_188, s_if2_lt, jm_48_6, s_bipush_m9, jm_57_15, fl_7_194, s_isub, ml_7_154, cq_123, s_tsw, am_swT_n, am_swT_c, List.toList_toArray, Int.reduceSub, jm_73_35, jm_73_40, jm_73_45, jm_73_54, jm_73_59, jm_73_65, fl_7_200, fl_7_197, fl_7_203, ml_7_179, cq_131, s_iconst_1, ml_7_215, cq_136, s_iconst_2, Int.le_refl, am_c3, am_c4, am_c6, am_c7, am_c8, am_c9, am_c27, am_c60, am_c240, am_c418, am_c3500, am_up_s, am_up_n, am_uu, ne_eq, Nat.reduceAdd, Int.reduceAdd, Int.reduceNeg, Int.reduceLE, Int.reduceToNat, true_and, and_true, List.length_cons, List.length_nil, Nat.reduceLeDiff, Nat.zero_add, Nat.add_zero, Nat.le_refl, true_or, or_true, reduceCtorEq, false_implies, implies_true, true_implies, not_true_eq_false, not_false_eq_true, eq_self, Int.zero_add, Int.reduceEq, Nat.reduceEqDiff]
            exact k'
          · rw [if_neg z0, if_neg z1, if_neg z2, if_pos z3] at k'; exact k'
          · rw [if_neg z0, if_neg z1, if_neg z2, if_neg z3, if_pos z4] at k'
            refine sp_picks l6 ho1 ?_
            refine am_run 400 ?_; simp (disch := omega) only [ow_137, rt_137, rn_137_0, rn_137_1, rn_137_2, rn_137_5, rn_137_8, rn_137_9, rn_137_10, rn_137_11, rn_137_14, rn_137_15, rn_137_16, rn_137_17, rn_137_20, rn_137_23, rn_137_24, rn_137_26, rn_137_28, rn_137_31, rn_137_34, rn_137_36, rn_137_37, rn_137_38, rn_137_39, rn_137_40, rn_137_43, rn_137_44, rn_137_45, rn_137_48, rn_137_51, rn_137_53, rn_137_54, rn_137_55, rn_137_57, rn_137_60, rn_137_61, rn_137_64, rn_137_65, rn_137_67, rn_137_68, rn_137_71, rn_137_72, rn_137_73, rn_137_108, rn_137_109, rn_137_112, rn_137_113, rn_137_114, rn_137_117, rn_137_118, rn_137_119, rn_137_120, rn_137_123, rn_137_126, rn_137_127, rn_137_128, rn_137_131, rn_137_132, rn_137_133, rn_137_134, rn_137_137, rn_137_138, rn_137_139, rn_137_140, rn_137_143, s_aload_n_0, s_iload_n_1, s_ivv, am_ivq_e, am_cvq_e, am_po_s, am_po_n, am_sl_n, am_sl_i, am_sl_r, am_sl_l, ml_7_151, cq_107, s_if1_ne, jm_5_5, s_iconst_m1, s_irt, am_irq_1, am_irq_2, s_iload_n_2, s_if1_lt, jm_11_23, s_iload_n_3, s_iconst_0, s_iconst_5, s_ivs, am_isv_1, am_isv_3, am_isv_5, s_acp, am_cpq_e, ml_7_91, cq_102, jm_20_17, s_bipush_10, s_bipush_12, jm_31_6, s_bipush_m2, ml_7_212, cq_134, s_gf, am_gfq_e, am_nth_0, am_nth_s, fl_7_188, s_if2_lt, jm_48_6, s_bipush_m9, jm_57_15, fl_7_194, s_isub, ml_7_154, cq_123, s_tsw, am_swT_n, am_swT_c, List.toList_toArray, Int.reduceSub, jm_73_35, jm_73_40, jm_73_45, jm_73_54, jm_73_59, jm_73_65, fl_7_200, fl_7_197, fl_7_203, ml_7_179, cq_131, s_iconst_1, ml_7_215, cq_136, s_iconst_2, Int.le_refl, am_c3, am_c4, am_c6, am_c7, am_c8, am_c9, am_c27, am_c60, am_c240, am_c418, am_c3500, am_up_s, am_up_n, am_uu, ne_eq, Nat.reduceAdd, Int.reduceAdd, Int.reduceNeg, Int.reduceLE, Int.reduceToNat, true_and, and_true, List.length_cons, List.length_nil, Nat.reduceLeDiff, Nat.zero_add, Nat.add_zero, Nat.le_refl, true_or, or_true, reduceCtorEq, false_implies, implies_true, true_implies, not_true_eq_false, not_false_eq_true, eq_self, Int.zero_add, Int.reduceEq, Nat.reduceEqDiff]
            exact k'
          · rw [if_neg z0, if_neg z1, if_neg z2, if_neg z3, if_neg z4, if_pos (by omega)] at k'
            refine sp_picks l6 ho1 ?_
            refine am_run 400 ?_; simp (disch := omega) only [ow_137, rt_137, rn_137_0, rn_137_1, rn_137_2, rn_137_5, rn_137_8, rn_137_9, rn_137_10, rn_137_11, rn_137_14, rn_137_15, rn_137_16, rn_137_17, rn_137_20, rn_137_23, rn_137_24, rn_137_26, rn_137_28, rn_137_31, rn_137_34, rn_137_36, rn_137_37, rn_137_38, rn_137_39, rn_137_40, rn_137_43, rn_137_44, rn_137_45, rn_137_48, rn_137_51, rn_137_53, rn_137_54, rn_137_55, rn_137_57, rn_137_60, rn_137_61, rn_137_64, rn_137_65, rn_137_67, rn_137_68, rn_137_71, rn_137_72, rn_137_73, rn_137_108, rn_137_109, rn_137_112, rn_137_113, rn_137_114, rn_137_117, rn_137_118, rn_137_119, rn_137_120, rn_137_123, rn_137_126, rn_137_127, rn_137_128, rn_137_131, rn_137_132, rn_137_133, rn_137_134, rn_137_137, rn_137_138, rn_137_139, rn_137_140, rn_137_143, s_aload_n_0, s_iload_n_1, s_ivv, am_ivq_e, am_cvq_e, am_po_s, am_po_n, am_sl_n, am_sl_i, am_sl_r, am_sl_l, ml_7_151, cq_107, s_if1_ne, jm_5_5, s_iconst_m1, s_irt, am_irq_1, am_irq_2, s_iload_n_2, s_if1_lt, jm_11_23, s_iload_n_3, s_iconst_0, s_iconst_5, s_ivs, am_isv_1, am_isv_3, am_isv_5, s_acp, am_cpq_e, ml_7_91, cq_102, jm_20_17, s_bipush_10, s_bipush_12, jm_31_6, s_bipush_m2, ml_7_212, cq_134, s_gf, am_gfq_e, am_nth_0, am_nth_s, fl_7_188, s_if2_lt, jm_48_6, s_bipush_m9, jm_57_15, fl_7_194, s_isub, ml_7_154, cq_123, s_tsw, am_swT_n, am_swT_c, List.toList_toArray, Int.reduceSub, jm_73_35, jm_73_40, jm_73_45, jm_73_54, jm_73_59, jm_73_65, fl_7_200, fl_7_197, fl_7_203, ml_7_179, cq_131, s_iconst_1, ml_7_215, cq_136, s_iconst_2, Int.le_refl, am_c3, am_c4, am_c6, am_c7, am_c8, am_c9, am_c27, am_c60, am_c240, am_c418, am_c3500, am_up_s, am_up_n, am_uu, ne_eq, Nat.reduceAdd, Int.reduceAdd, Int.reduceNeg, Int.reduceLE, Int.reduceToNat, true_and, and_true, List.length_cons, List.length_nil, Nat.reduceLeDiff, Nat.zero_add, Nat.add_zero, Nat.le_refl, true_or, or_true, reduceCtorEq, false_implies, implies_true, true_implies, not_true_eq_false, not_false_eq_true, eq_self, Int.zero_add, Int.reduceEq, Nat.reduceEqDiff]
            exact k'
        · rw [if_neg (by omega), if_neg (by omega), if_neg (by omega), if_neg (by omega), if_neg (by omega), if_neg (by omega)] at k'
          rw [wr_ok (by omega) (by omega)]
          refine sp_boundIn ?_
          have e9 := w1' (w - 10).toNat (by omega)
          rw [Int.toNat_of_nonneg (by omega)] at e9
          rw [← e9] at k'
          refine am_run 400 ?_; simp (disch := omega) only [ow_137, rt_137, rn_137_0, rn_137_1, rn_137_2, rn_137_5, rn_137_8, rn_137_9, rn_137_10, rn_137_11, rn_137_14, rn_137_15, rn_137_16, rn_137_17, rn_137_20, rn_137_23, rn_137_24, rn_137_26, rn_137_28, rn_137_31, rn_137_34, rn_137_36, rn_137_37, rn_137_38, rn_137_39, rn_137_40, rn_137_43, rn_137_44, rn_137_45, rn_137_48, rn_137_51, rn_137_53, rn_137_54, rn_137_55, rn_137_57, rn_137_60, rn_137_61, rn_137_64, rn_137_65, rn_137_67, rn_137_68, rn_137_71, rn_137_72, rn_137_73, rn_137_108, rn_137_109, rn_137_112, rn_137_113, rn_137_114, rn_137_117, rn_137_118, rn_137_119, rn_137_120, rn_137_123, rn_137_126, rn_137_127, rn_137_128, rn_137_131, rn_137_132, rn_137_133, rn_137_134, rn_137_137, rn_137_138, rn_137_139, rn_137_140, rn_137_143, s_aload_n_0, s_iload_n_1, s_ivv, am_ivq_e, am_cvq_e, am_po_s, am_po_n, am_sl_n, am_sl_i, am_sl_r, am_sl_l, ml_7_151, cq_107, s_if1_ne, jm_5_5, s_iconst_m1, s_irt, am_irq_1, am_irq_2, s_iload_n_2, s_if1_lt, jm_11_23, s_iload_n_3, s_iconst_0, s_iconst_5, s_ivs, am_isv_1, am_isv_3, am_isv_5, s_acp, am_cpq_e, ml_7_91, cq_102, jm_20_17, s_bipush_10, s_bipush_12, jm_31_6, s_bipush_m2, ml_7_212, cq_134, s_gf, am_gfq_e, am_nth_0, am_nth_s, fl_7_188, s_if2_lt, jm_48_6, s_bipush_m9, jm_57_15, fl_7_194, s_isub, ml_7_154, cq_123, s_tsw, am_swT_n, am_swT_c, List.toList_toArray, Int.reduceSub, jm_73_35, jm_73_40, jm_73_45, jm_73_54, jm_73_59, jm_73_65, fl_7_200, fl_7_197, fl_7_203, ml_7_179, cq_131, s_iconst_1, ml_7_215, cq_136, s_iconst_2, Int.le_refl, am_c3, am_c4, am_c6, am_c7, am_c8, am_c9, am_c27, am_c60, am_c240, am_c418, am_c3500, am_up_s, am_up_n, am_uu, ne_eq, Nat.reduceAdd, Int.reduceAdd, Int.reduceNeg, Int.reduceLE, Int.reduceToNat, true_and, and_true, List.length_cons, List.length_nil, Nat.reduceLeDiff, Nat.zero_add, Nat.add_zero, Nat.le_refl, true_or, or_true, reduceCtorEq, false_implies, implies_true, true_implies, not_true_eq_false, not_false_eq_true, eq_self, Int.zero_add, Int.reduceEq, Nat.reduceEqDiff]
          exact k'
      · have hn : plc (evS P.fns P.tms tn) (row1 P.fns P.tms P.gs tn) c0 (row1 P.fns P.tms P.gs tn).length = none := by
          cases y : plc (evS P.fns P.tms tn) (row1 P.fns P.tms P.gs tn) c0 (row1 P.fns P.tms P.gs tn).length with
          | none => rfl
          | some i => exact absurd (pc.1 ⟨i, y⟩) z
        rw [hn] at k'
        exact k'
    refine am_run 400 ?_; simp (disch := omega) only [ow_137, rt_137, rn_137_0, rn_137_1, rn_137_2, rn_137_5, rn_137_8, rn_137_9, rn_137_10, rn_137_11, rn_137_14, rn_137_15, rn_137_16, rn_137_17, rn_137_20, rn_137_23, rn_137_24, rn_137_26, rn_137_28, rn_137_31, rn_137_34, rn_137_36, rn_137_37, rn_137_38, rn_137_39, rn_137_40, rn_137_43, rn_137_44, rn_137_45, rn_137_48, rn_137_51, rn_137_53, rn_137_54, rn_137_55, rn_137_57, rn_137_60, rn_137_61, rn_137_64, rn_137_65, rn_137_67, rn_137_68, rn_137_71, rn_137_72, rn_137_73, rn_137_108, rn_137_109, rn_137_112, rn_137_113, rn_137_114, rn_137_117, rn_137_118, rn_137_119, rn_137_120, rn_137_123, rn_137_126, rn_137_127, rn_137_128, rn_137_131, rn_137_132, rn_137_133, rn_137_134, rn_137_137, rn_137_138, rn_137_139, rn_137_140, rn_137_143, s_aload_n_0, s_iload_n_1, s_ivv, am_ivq_e, am_cvq_e, am_po_s, am_po_n, am_sl_n, am_sl_i, am_sl_r, am_sl_l, ml_7_151, cq_107, s_if1_ne, jm_5_5, s_iconst_m1, s_irt, am_irq_1, am_irq_2, s_iload_n_2, s_if1_lt, jm_11_23, s_iload_n_3, s_iconst_0, s_iconst_5, s_ivs, am_isv_1, am_isv_3, am_isv_5, s_acp, am_cpq_e, ml_7_91, cq_102, jm_20_17, s_bipush_10, s_bipush_12, jm_31_6, s_bipush_m2, ml_7_212, cq_134, s_gf, am_gfq_e, am_nth_0, am_nth_s, fl_7_188, s_if2_lt, jm_48_6, s_bipush_m9, jm_57_15, fl_7_194, s_isub, ml_7_154, cq_123, s_tsw, am_swT_n, am_swT_c, List.toList_toArray, Int.reduceSub, jm_73_35, jm_73_40, jm_73_45, jm_73_54, jm_73_59, jm_73_65, fl_7_200, fl_7_197, fl_7_203, ml_7_179, cq_131, s_iconst_1, ml_7_215, cq_136, s_iconst_2, Int.le_refl, am_c3, am_c4, am_c6, am_c7, am_c8, am_c9, am_c27, am_c60, am_c240, am_c418, am_c3500, am_up_s, am_up_n, am_uu, ne_eq, Nat.reduceAdd, Int.reduceAdd, Int.reduceNeg, Int.reduceLE, Int.reduceToNat, true_and, and_true, List.length_cons, List.length_nil, Nat.reduceLeDiff, Nat.zero_add, Nat.add_zero, Nat.le_refl, true_or, or_true, reduceCtorEq, false_implies, implies_true, true_implies, not_true_eq_false, not_false_eq_true, eq_self, Int.zero_add, Int.reduceEq, Nat.reduceEqDiff, ho]
    refine ⟨fun z => ?_, fun z => ?_⟩
    · rw [if_pos (by omega)] at k
      exact k h c FrM.rf
    · refine sp_within (fun z1 => ?_) (fun z1 => ?_)
      · refine am_run 400 ?_; simp (disch := omega) only [ow_137, rt_137, rn_137_0, rn_137_1, rn_137_2, rn_137_5, rn_137_8, rn_137_9, rn_137_10, rn_137_11, rn_137_14, rn_137_15, rn_137_16, rn_137_17, rn_137_20, rn_137_23, rn_137_24, rn_137_26, rn_137_28, rn_137_31, rn_137_34, rn_137_36, rn_137_37, rn_137_38, rn_137_39, rn_137_40, rn_137_43, rn_137_44, rn_137_45, rn_137_48, rn_137_51, rn_137_53, rn_137_54, rn_137_55, rn_137_57, rn_137_60, rn_137_61, rn_137_64, rn_137_65, rn_137_67, rn_137_68, rn_137_71, rn_137_72, rn_137_73, rn_137_108, rn_137_109, rn_137_112, rn_137_113, rn_137_114, rn_137_117, rn_137_118, rn_137_119, rn_137_120, rn_137_123, rn_137_126, rn_137_127, rn_137_128, rn_137_131, rn_137_132, rn_137_133, rn_137_134, rn_137_137, rn_137_138, rn_137_139, rn_137_140, rn_137_143, s_aload_n_0, s_iload_n_1, s_ivv, am_ivq_e, am_cvq_e, am_po_s, am_po_n, am_sl_n, am_sl_i, am_sl_r, am_sl_l, ml_7_151, cq_107, s_if1_ne, jm_5_5, s_iconst_m1, s_irt, am_irq_1, am_irq_2, s_iload_n_2, s_if1_lt, jm_11_23, s_iload_n_3, s_iconst_0, s_iconst_5, s_ivs, am_isv_1, am_isv_3, am_isv_5, s_acp, am_cpq_e, ml_7_91, cq_102, jm_20_17, s_bipush_10, s_bipush_12, jm_31_6, s_bipush_m2, ml_7_212, cq_134, s_gf, am_gfq_e, am_nth_0, am_nth_s, fl_7_188, s_if2_lt, jm_48_6, s_bipush_m9, jm_57_15, fl_7_194, s_isub, ml_7_154, cq_123, s_tsw, am_swT_n, am_swT_c, List.toList_toArray, Int.reduceSub, jm_73_35, jm_73_40, jm_73_45, jm_73_54, jm_73_59, jm_73_65, fl_7_200, fl_7_197, fl_7_203, ml_7_179, cq_131, s_iconst_1, ml_7_215, cq_136, s_iconst_2, Int.le_refl, am_c3, am_c4, am_c6, am_c7, am_c8, am_c9, am_c27, am_c60, am_c240, am_c418, am_c3500, am_up_s, am_up_n, am_uu, ne_eq, Nat.reduceAdd, Int.reduceAdd, Int.reduceNeg, Int.reduceLE, Int.reduceToNat, true_and, and_true, List.length_cons, List.length_nil, Nat.reduceLeDiff, Nat.zero_add, Nat.add_zero, Nat.le_refl, true_or, or_true, reduceCtorEq, false_implies, implies_true, true_implies, not_true_eq_false, not_false_eq_true, eq_self, Int.zero_add, Int.reduceEq, Nat.reduceEqDiff, ho]
        exact go (by omega) (by omega)
      · refine am_run 400 ?_; simp (disch := omega) only [ow_137, rt_137, rn_137_0, rn_137_1, rn_137_2, rn_137_5, rn_137_8, rn_137_9, rn_137_10, rn_137_11, rn_137_14, rn_137_15, rn_137_16, rn_137_17, rn_137_20, rn_137_23, rn_137_24, rn_137_26, rn_137_28, rn_137_31, rn_137_34, rn_137_36, rn_137_37, rn_137_38, rn_137_39, rn_137_40, rn_137_43, rn_137_44, rn_137_45, rn_137_48, rn_137_51, rn_137_53, rn_137_54, rn_137_55, rn_137_57, rn_137_60, rn_137_61, rn_137_64, rn_137_65, rn_137_67, rn_137_68, rn_137_71, rn_137_72, rn_137_73, rn_137_108, rn_137_109, rn_137_112, rn_137_113, rn_137_114, rn_137_117, rn_137_118, rn_137_119, rn_137_120, rn_137_123, rn_137_126, rn_137_127, rn_137_128, rn_137_131, rn_137_132, rn_137_133, rn_137_134, rn_137_137, rn_137_138, rn_137_139, rn_137_140, rn_137_143, s_aload_n_0, s_iload_n_1, s_ivv, am_ivq_e, am_cvq_e, am_po_s, am_po_n, am_sl_n, am_sl_i, am_sl_r, am_sl_l, ml_7_151, cq_107, s_if1_ne, jm_5_5, s_iconst_m1, s_irt, am_irq_1, am_irq_2, s_iload_n_2, s_if1_lt, jm_11_23, s_iload_n_3, s_iconst_0, s_iconst_5, s_ivs, am_isv_1, am_isv_3, am_isv_5, s_acp, am_cpq_e, ml_7_91, cq_102, jm_20_17, s_bipush_10, s_bipush_12, jm_31_6, s_bipush_m2, ml_7_212, cq_134, s_gf, am_gfq_e, am_nth_0, am_nth_s, fl_7_188, s_if2_lt, jm_48_6, s_bipush_m9, jm_57_15, fl_7_194, s_isub, ml_7_154, cq_123, s_tsw, am_swT_n, am_swT_c, List.toList_toArray, Int.reduceSub, jm_73_35, jm_73_40, jm_73_45, jm_73_54, jm_73_59, jm_73_65, fl_7_200, fl_7_197, fl_7_203, ml_7_179, cq_131, s_iconst_1, ml_7_215, cq_136, s_iconst_2, Int.le_refl, am_c3, am_c4, am_c6, am_c7, am_c8, am_c9, am_c27, am_c60, am_c240, am_c418, am_c3500, am_up_s, am_up_n, am_uu, ne_eq, Nat.reduceAdd, Int.reduceAdd, Int.reduceNeg, Int.reduceLE, Int.reduceToNat, true_and, and_true, List.length_cons, List.length_nil, Nat.reduceLeDiff, Nat.zero_add, Nat.add_zero, Nat.le_refl, true_or, or_true, reduceCtorEq, false_implies, implies_true, true_implies, not_true_eq_false, not_false_eq_true, eq_self, Int.zero_add, Int.reduceEq, Nat.reduceEqDiff, ho]
        refine sp_within (fun z2 => ?_) (fun z2 => ?_)
        · refine am_run 400 ?_; simp (disch := omega) only [ow_137, rt_137, rn_137_0, rn_137_1, rn_137_2, rn_137_5, rn_137_8, rn_137_9, rn_137_10, rn_137_11, rn_137_14, rn_137_15, rn_137_16, rn_137_17, rn_137_20, rn_137_23, rn_137_24, rn_137_26, rn_137_28, rn_137_31, rn_137_34, rn_137_36, rn_137_37, rn_137_38, rn_137_39, rn_137_40, rn_137_43, rn_137_44, rn_137_45, rn_137_48, rn_137_51, rn_137_53, rn_137_54, rn_137_55, rn_137_57, rn_137_60, rn_137_61, rn_137_64, rn_137_65, rn_137_67, rn_137_68, rn_137_71, rn_137_72, rn_137_73, rn_137_108, rn_137_109, rn_137_112, rn_137_113, rn_137_114, rn_137_117, rn_137_118, rn_137_119, rn_137_120, rn_137_123, rn_137_126, rn_137_127, rn_137_128, rn_137_131, rn_137_132, rn_137_133, rn_137_134, rn_137_137, rn_137_138, rn_137_139, rn_137_140, rn_137_143, s_aload_n_0, s_iload_n_1, s_ivv, am_ivq_e, am_cvq_e, am_po_s, am_po_n, am_sl_n, am_sl_i, am_sl_r, am_sl_l, ml_7_151, cq_107, s_if1_ne, jm_5_5, s_iconst_m1, s_irt, am_irq_1, am_irq_2, s_iload_n_2, s_if1_lt, jm_11_23, s_iload_n_3, s_iconst_0, s_iconst_5, s_ivs, am_isv_1, am_isv_3, am_isv_5, s_acp, am_cpq_e, ml_7_91, cq_102, jm_20_17, s_bipush_10, s_bipush_12, jm_31_6, s_bipush_m2, ml_7_212, cq_134, s_gf, am_gfq_e, am_nth_0, am_nth_s, fl_7_188, s_if2_lt, jm_48_6, s_bipush_m9, jm_57_15, fl_7_194, s_isub, ml_7_154, cq_123, s_tsw, am_swT_n, am_swT_c, List.toList_toArray, Int.reduceSub, jm_73_35, jm_73_40, jm_73_45, jm_73_54, jm_73_59, jm_73_65, fl_7_200, fl_7_197, fl_7_203, ml_7_179, cq_131, s_iconst_1, ml_7_215, cq_136, s_iconst_2, Int.le_refl, am_c3, am_c4, am_c6, am_c7, am_c8, am_c9, am_c27, am_c60, am_c240, am_c418, am_c3500, am_up_s, am_up_n, am_uu, ne_eq, Nat.reduceAdd, Int.reduceAdd, Int.reduceNeg, Int.reduceLE, Int.reduceToNat, true_and, and_true, List.length_cons, List.length_nil, Nat.reduceLeDiff, Nat.zero_add, Nat.add_zero, Nat.le_refl, true_or, or_true, reduceCtorEq, false_implies, implies_true, true_implies, not_true_eq_false, not_false_eq_true, eq_self, Int.zero_add, Int.reduceEq, Nat.reduceEqDiff, ho]
          exact go (by omega) (by omega)
        · rw [if_pos (by omega)] at k
          refine am_run 400 ?_; simp (disch := omega) only [ow_137, rt_137, rn_137_0, rn_137_1, rn_137_2, rn_137_5, rn_137_8, rn_137_9, rn_137_10, rn_137_11, rn_137_14, rn_137_15, rn_137_16, rn_137_17, rn_137_20, rn_137_23, rn_137_24, rn_137_26, rn_137_28, rn_137_31, rn_137_34, rn_137_36, rn_137_37, rn_137_38, rn_137_39, rn_137_40, rn_137_43, rn_137_44, rn_137_45, rn_137_48, rn_137_51, rn_137_53, rn_137_54, rn_137_55, rn_137_57, rn_137_60, rn_137_61, rn_137_64, rn_137_65, rn_137_67, rn_137_68, rn_137_71, rn_137_72, rn_137_73, rn_137_108, rn_137_109, rn_137_112, rn_137_113, rn_137_114, rn_137_117, rn_137_118, rn_137_119, rn_137_120, rn_137_123, rn_137_126, rn_137_127, rn_137_128, rn_137_131, rn_137_132, rn_137_133, rn_137_134, rn_137_137, rn_137_138, rn_137_139, rn_137_140, rn_137_143, s_aload_n_0, s_iload_n_1, s_ivv, am_ivq_e, am_cvq_e, am_po_s, am_po_n, am_sl_n, am_sl_i, am_sl_r, am_sl_l, ml_7_151, cq_107, s_if1_ne, jm_5_5, s_iconst_m1, s_irt, am_irq_1, am_irq_2, s_iload_n_2, s_if1_lt, jm_11_23, s_iload_n_3, s_iconst_0, s_iconst_5, s_ivs, am_isv_1, am_isv_3, am_isv_5, s_acp, am_cpq_e, ml_7_91, cq_102, jm_20_17, s_bipush_10, s_bipush_12, jm_31_6, s_bipush_m2, ml_7_212, cq_134, s_gf, am_gfq_e, am_nth_0, am_nth_s, fl_7_188, s_if2_lt, jm_48_6, s_bipush_m9, jm_57_15, fl_7_194, s_isub, ml_7_154, cq_123, s_tsw, am_swT_n, am_swT_c, List.toList_toArray, Int.reduceSub, jm_73_35, jm_73_40, jm_73_45, jm_73_54, jm_73_59, jm_73_65, fl_7_200, fl_7_197, fl_7_203, ml_7_179, cq_131, s_iconst_1, ml_7_215, cq_136, s_iconst_2, Int.le_refl, am_c3, am_c4, am_c6, am_c7, am_c8, am_c9, am_c27, am_c60, am_c240, am_c418, am_c3500, am_up_s, am_up_n, am_uu, ne_eq, Nat.reduceAdd, Int.reduceAdd, Int.reduceNeg, Int.reduceLE, Int.reduceToNat, true_and, and_true, List.length_cons, List.length_nil, Nat.reduceLeDiff, Nat.zero_add, Nat.add_zero, Nat.le_refl, true_or, or_true, reduceCtorEq, false_implies, implies_true, true_implies, not_true_eq_false, not_false_eq_true, eq_self, Int.zero_add, Int.reduceEq, Nat.reduceEqDiff]
          exact k h c FrM.rf
  · rw [if_pos q] at k
    refine am_run 400 ?_; simp (disch := omega) only [ow_137, rt_137, rn_137_0, rn_137_1, rn_137_2, rn_137_5, rn_137_8, rn_137_9, rn_137_10, rn_137_11, rn_137_14, rn_137_15, rn_137_16, rn_137_17, rn_137_20, rn_137_23, rn_137_24, rn_137_26, rn_137_28, rn_137_31, rn_137_34, rn_137_36, rn_137_37, rn_137_38, rn_137_39, rn_137_40, rn_137_43, rn_137_44, rn_137_45, rn_137_48, rn_137_51, rn_137_53, rn_137_54, rn_137_55, rn_137_57, rn_137_60, rn_137_61, rn_137_64, rn_137_65, rn_137_67, rn_137_68, rn_137_71, rn_137_72, rn_137_73, rn_137_108, rn_137_109, rn_137_112, rn_137_113, rn_137_114, rn_137_117, rn_137_118, rn_137_119, rn_137_120, rn_137_123, rn_137_126, rn_137_127, rn_137_128, rn_137_131, rn_137_132, rn_137_133, rn_137_134, rn_137_137, rn_137_138, rn_137_139, rn_137_140, rn_137_143, s_aload_n_0, s_iload_n_1, s_ivv, am_ivq_e, am_cvq_e, am_po_s, am_po_n, am_sl_n, am_sl_i, am_sl_r, am_sl_l, ml_7_151, cq_107, s_if1_ne, jm_5_5, s_iconst_m1, s_irt, am_irq_1, am_irq_2, s_iload_n_2, s_if1_lt, jm_11_23, s_iload_n_3, s_iconst_0, s_iconst_5, s_ivs, am_isv_1, am_isv_3, am_isv_5, s_acp, am_cpq_e, ml_7_91, cq_102, jm_20_17, s_bipush_10, s_bipush_12, jm_31_6, s_bipush_m2, ml_7_212, cq_134, s_gf, am_gfq_e, am_nth_0, am_nth_s, fl_7_188, s_if2_lt, jm_48_6, s_bipush_m9, jm_57_15, fl_7_194, s_isub, ml_7_154, cq_123, s_tsw, am_swT_n, am_swT_c, List.toList_toArray, Int.reduceSub, jm_73_35, jm_73_40, jm_73_45, jm_73_54, jm_73_59, jm_73_65, fl_7_200, fl_7_197, fl_7_203, ml_7_179, cq_131, s_iconst_1, ml_7_215, cq_136, s_iconst_2, Int.le_refl, am_c3, am_c4, am_c6, am_c7, am_c8, am_c9, am_c27, am_c60, am_c240, am_c418, am_c3500, am_up_s, am_up_n, am_uu, ne_eq, Nat.reduceAdd, Int.reduceAdd, Int.reduceNeg, Int.reduceLE, Int.reduceToNat, true_and, and_true, List.length_cons, List.length_nil, Nat.reduceLeDiff, Nat.zero_add, Nat.add_zero, Nat.le_refl, true_or, or_true, reduceCtorEq, false_implies, implies_true, true_implies, not_true_eq_false, not_false_eq_true, eq_self, Int.zero_add, Int.reduceEq, Nat.reduceEqDiff]
    exact k h c FrM.rf
end
