/-! MODEL 24: odds -/
theorem enm_low : ∀ {R : List (Int × Int)} {p : Nat}, p < R.length → (enm R 0).getD p 0 = (R.getD p (0, 0)).1
  | [], p, hp => absurd hp (by simp)
  | r :: R, 0, _ => by
    show r.1 + ((0 % wd r : Nat) : Int) = r.1
    rw [Nat.zero_mod]
    simp
  | r :: R, p + 1, hp => by
    show (enm R (0 / wd r)).getD p 0 = (R.getD p (0, 0)).1
    rw [Nat.zero_div]
    exact enm_low (by simpa using hp)
theorem tk1 {L : List Int} {j : Nat} (hj : j < L.length) : L.take (j + 1) = L.take j ++ [L.getD j 0] := by
  rw [List.take_add_one, gd_get 0 hj]
  rfl
theorem Rg_len {gs : List Int} {T : Nat} : (Rg gs T).length = 3 + T := by
  show (List.replicate T ((1 : Int), (2 : Int))).length + 1 + 1 + 1 = _
  rw [List.length_replicate]; omega
theorem DG.tk {L : List Int} (a : DG L) (j : Nat) : DG (L.take j) := fun d hd => a d (List.mem_of_mem_take hd)
section
variable {d n : Nat} {h : am_H} {K : am_K} {P : PS} {ft tr fc pt rf st an vs lp wa ws wt wv wl rc : Int} {gs : List Int} {t : Nat} {v w : Int}
theorem lp_od2 {T : Nat} (hT : T ≤ 6) (hg : GS gs) (ho : h 58 = mO ft tr fc T pt rf st an vs lp wa ws wt wv wl rc) (k : am_W 150 n (am_M d) K 117 [some (rV 58), some (iV t), some (iV v), some (iV w), some (iV (cod (enm (Rg gs T) 0))), some (iV 0), some (iV 0)] [] n h) :
    ∀ (kk q : Nat), q + kk = T → am_W 150 n (am_M d) K 83 [some (rV 58), some (iV t), some (iV v), some (iV w), some (iV (cod ((enm (Rg gs T) 0).take (3 + q)))), some (iV q), none] [] n h := by
  have le : (enm (Rg gs T) 0).length = 3 + T := by rw [enm_len, Rg_len]
  have dg := enm_DG (i := 0) (Rg_VR hg T)
  intro kk
  induction kk with
  | zero =>
    intro q hq
    obtain rfl : q = T := by omega
    rw [List.take_of_length_le (by omega)]
    refine am_runH 400 ?_; simp (disch := omega) only [ow_150, rt_150, rn_150_83, rf_150_83, rn_150_85, rn_150_86, rn_150_89, rn_150_92, rn_150_94, rn_150_95, rn_150_96, rn_150_97, rn_150_99, rn_150_100, rn_150_101, rn_150_102, rn_150_103, rn_150_105, rn_150_108, rn_150_111, rn_150_112, rn_150_114, rn_150_115, rn_150_117, rf_150_117, s_iload_5, s_aload_n_0, s_gf, am_gfq_e, am_nth_0, am_nth_s, fl_7_98, s_if2_ge, jm_89_22, s_iload_4, s_iconst_1, s_iconst_2, s_iconst_3, s_iadd, s_imul, s_ishl, s_ior, s_istore_4, am_kil_n, am_kil_i, am_kil_r, am_kil_l, s_iinc_5, s_goto, jm_108_m25, s_iconst_0, s_istore_5, s_istore_6, Int.le_refl, am_c3, am_c4, am_c6, am_c7, am_c8, am_c9, am_c27, am_c60, am_c240, am_c418, am_c3500, am_up_s, am_up_n, am_uu, ne_eq, Nat.reduceAdd, Int.reduceAdd, Int.reduceNeg, Int.reduceLE, Int.reduceToNat, true_and, and_true, List.length_cons, List.length_nil, Nat.reduceLeDiff, Nat.zero_add, Nat.add_zero, Nat.le_refl, true_or, or_true, reduceCtorEq, false_implies, implies_true, true_implies, not_true_eq_false, not_false_eq_true, eq_self, Int.zero_add, Int.reduceEq, Nat.reduceEqDiff, ho]
    exact k
  | succ kk ih =>
    intro q hq
    have nx := ih (q + 1) (by omega)
    have e1 : (enm (Rg gs T) 0).getD (3 + q) 0 = 1 := by
      rw [enm_low (by rw [Rg_len]; omega)]
      have : (Rg gs T).getD (3 + q) (0, 0) = (List.replicate T ((1 : Int), (2 : Int))).getD q (0, 0) := by rw [show 3 + q = q + 1 + 1 + 1 by omega]; rfl
      rw [this, gd_rep (by omega)]
    have lt : ((enm (Rg gs T) 0).take (3 + q)).length = 3 + q := by rw [List.length_take]; omega
    have co := cod_or (g := 1) (dg.tk (3 + q)) (by omega) (by omega)
    rw [lt, ← e1, ← tk1 (by omega), e1, show ((2 * (3 + q) : Nat) : Int) = 2 * (3 + (q : Int)) by omega] at co
    rw [show 3 + (q + 1) = 3 + q + 1 by omega] at nx
    refine am_runH 400 ?_; simp (disch := omega) only [ow_150, rt_150, rn_150_83, rf_150_83, rn_150_85, rn_150_86, rn_150_89, rn_150_92, rn_150_94, rn_150_95, rn_150_96, rn_150_97, rn_150_99, rn_150_100, rn_150_101, rn_150_102, rn_150_103, rn_150_105, rn_150_108, rn_150_111, rn_150_112, rn_150_114, rn_150_115, rn_150_117, rf_150_117, s_iload_5, s_aload_n_0, s_gf, am_gfq_e, am_nth_0, am_nth_s, fl_7_98, s_if2_ge, jm_89_22, s_iload_4, s_iconst_1, s_iconst_2, s_iconst_3, s_iadd, s_imul, s_ishl, s_ior, s_istore_4, am_kil_n, am_kil_i, am_kil_r, am_kil_l, s_iinc_5, s_goto, jm_108_m25, s_iconst_0, s_istore_5, s_istore_6, Int.le_refl, am_c3, am_c4, am_c6, am_c7, am_c8, am_c9, am_c27, am_c60, am_c240, am_c418, am_c3500, am_up_s, am_up_n, am_uu, ne_eq, Nat.reduceAdd, Int.reduceAdd, Int.reduceNeg, Int.reduceLE, Int.reduceToNat, true_and, and_true, List.length_cons, List.length_nil, Nat.reduceLeDiff, Nat.zero_add, Nat.add_zero, Nat.le_refl, true_or, or_true, reduceCtorEq, false_implies, implies_true, true_implies, not_true_eq_false, not_false_eq_true, eq_self, Int.zero_add, Int.reduceEq, Nat.reduceEqDiff, ho, wr_ok, am_i1, co]
    exact ⟨fun z => by omega, fun _ => nx⟩
theorem lp_od1 {T : Nat} (hT : T ≤ 6) (hg : GS gs) (lg : gs.length = 3) (ho : h 58 = mO ft tr fc T pt rf st an vs lp wa ws wt wv wl rc) (h71 : h 71 = aC gs) (k : am_W 150 n (am_M d) K 117 [some (rV 58), some (iV t), some (iV v), some (iV w), some (iV (cod (enm (Rg gs T) 0))), some (iV 0), some (iV 0)] [] n h) :
    ∀ (kk q : Nat), q + kk = 3 → am_W 150 n (am_M d) K 36 [some (rV 58), some (iV t), some (iV v), some (iV w), some (iV (cod ((enm (Rg gs T) 0).take q))), some (iV q), none] [] n h := by
  have le : (enm (Rg gs T) 0).length = 3 + T := by rw [enm_len, Rg_len]
  have dg := enm_DG (i := 0) (Rg_VR hg T)
  intro kk
  induction kk with
  | zero =>
    intro q hq
    obtain rfl : q = 3 := by omega
    refine am_runH 400 ?_; simp (disch := omega) only [ow_150, rt_150, rn_150_36, rf_150_36, rn_150_38, rn_150_39, rn_150_42, rn_150_44, rn_150_45, rn_150_48, rn_150_50, rn_150_51, rn_150_52, rn_150_55, rn_150_56, rn_150_59, rn_150_60, rn_150_63, rn_150_65, rn_150_66, rn_150_67, rn_150_69, rn_150_70, rn_150_71, rn_150_72, rn_150_74, rn_150_77, rn_150_80, rn_150_81, rn_150_83, rf_150_83, s_iload_5, s_iconst_3, s_if2_ge, jm_39_41, s_iload_4, s_aload_n_0, s_gf, am_gfq_e, am_nth_0, am_nth_s, fl_7_46, s_iald, am_iaq_e, s_if2_ne, jm_52_7, s_iconst_0, s_goto, jm_56_15, s_iconst_2, s_imul, s_ishl, s_ior, s_istore_4, am_kil_n, am_kil_i, am_kil_r, am_kil_l, s_iinc_5, jm_77_m41, s_istore_5, Int.le_refl, am_c3, am_c4, am_c6, am_c7, am_c8, am_c9, am_c27, am_c60, am_c240, am_c418, am_c3500, am_up_s, am_up_n, am_uu, ne_eq, Nat.reduceAdd, Int.reduceAdd, Int.reduceNeg, Int.reduceLE, Int.reduceToNat, true_and, and_true, List.length_cons, List.length_nil, Nat.reduceLeDiff, Nat.zero_add, Nat.add_zero, Nat.le_refl, true_or, or_true, reduceCtorEq, false_implies, implies_true, true_implies, not_true_eq_false, not_false_eq_true, eq_self, Int.zero_add, Int.reduceEq, Nat.reduceEqDiff, ho]
    exact lp_od2 hT hg ho k T 0 (by omega)
  | succ kk ih =>
    intro q hq
    have nx := ih (q + 1) (by omega)
    have e1 : (enm (Rg gs T) 0).getD q 0 = (ug gs q).1 := by
      rw [enm_low (by rw [Rg_len]; omega)]
      rcases (by omega : q = 0 ∨ q = 1 ∨ q = 2) with z | z | z <;> subst z <;> rfl
    have hgq := hg q (by omega)
    have lt : ((enm (Rg gs T) 0).take q).length = q := by rw [List.length_take]; omega
    have ci := cod_in (dg.tk q) (by omega)
    rw [tk1 (by omega), e1] at nx
    refine am_runH 400 ?_; simp (disch := omega) only [ow_150, rt_150, rn_150_36, rf_150_36, rn_150_38, rn_150_39, rn_150_42, rn_150_44, rn_150_45, rn_150_48, rn_150_50, rn_150_51, rn_150_52, rn_150_55, rn_150_56, rn_150_59, rn_150_60, rn_150_63, rn_150_65, rn_150_66, rn_150_67, rn_150_69, rn_150_70, rn_150_71, rn_150_72, rn_150_74, rn_150_77, rn_150_80, rn_150_81, rn_150_83, rf_150_83, s_iload_5, s_iconst_3, s_if2_ge, jm_39_41, s_iload_4, s_aload_n_0, s_gf, am_gfq_e, am_nth_0, am_nth_s, fl_7_46, s_iald, am_iaq_e, s_if2_ne, jm_52_7, s_iconst_0, s_goto, jm_56_15, s_iconst_2, s_imul, s_ishl, s_ior, s_istore_4, am_kil_n, am_kil_i, am_kil_r, am_kil_l, s_iinc_5, jm_77_m41, s_istore_5, Int.le_refl, am_c3, am_c4, am_c6, am_c7, am_c8, am_c9, am_c27, am_c60, am_c240, am_c418, am_c3500, am_up_s, am_up_n, am_uu, ne_eq, Nat.reduceAdd, Int.reduceAdd, Int.reduceNeg, Int.reduceLE, Int.reduceToNat, true_and, and_true, List.length_cons, List.length_nil, Nat.reduceLeDiff, Nat.zero_add, Nat.add_zero, Nat.le_refl, true_or, or_true, reduceCtorEq, false_implies, implies_true, true_implies, not_true_eq_false, not_false_eq_true, eq_self, Int.zero_add, Int.reduceEq, Nat.reduceEqDiff, ho, h71, lg, wr_ok, am_i1, Int.toNat_natCast, or_0 ci]
    refine ⟨fun z => by omega, fun _ => ⟨by omega, fun z => ⟨by omega, ?_⟩, fun z => ?_⟩⟩
    · have co := cod_or (g := gs.getD q 0) (dg.tk q) hgq (by omega)
      rw [lt, show ((2 * q : Nat) : Int) = 2 * (q : Int) by omega] at co
      have eu : (ug gs q).1 = gs.getD q 0 := by unfold ug; rw [if_neg z]
      rw [eu, ← co] at nx
      exact nx
    · have eu : (ug gs q).1 = 0 := by unfold ug; rw [if_pos z]
      rw [eu, cod_app, show cod [0] = 0 from rfl, Int.mul_zero, Int.add_zero] at nx
      exact nx
theorem bx_1728 {T : Nat} (hg : GS gs) (hT : T ≤ 6) : bx (Rg gs T) ≤ 1728 := by
  have e3 : bx (Rg gs T) = wd (ug gs 0) * (wd (ug gs 1) * (wd (ug gs 2) * 2 ^ T)) := by
    show wd (ug gs 0) * (wd (ug gs 1) * (wd (ug gs 2) * bx (List.replicate T (1, 2)))) = _
    rw [bx_T]
  have hw : ∀ x, x < 3 → wd (ug gs x) ≤ 3 := by
    intro x hx
    unfold ug wd
    split
    · decide
    · dsimp only; omega
  have h0 := hw 0 (by omega)
  have h1 := hw 1 (by omega)
  have h2 := hw 2 (by omega)
  have h6 : 2 ^ T ≤ 64 := Nat.pow_le_pow_right (n := 2) (by omega) hT
  rw [e3]
  refine Nat.le_trans (Nat.mul_le_mul h0 (Nat.mul_le_mul h1 (Nat.mul_le_mul h2 h6))) (by decide)
theorem sN_le1 {f : Nat → Nat} (hf : ∀ j, f j ≤ 1) : ∀ i, sN i f ≤ i
  | 0 => Nat.le_refl _
  | i + 1 => by
    have := sN_le1 hf i
    have := hf i
    show sN i f + f i ≤ i + 1
    omega
set_option maxRecDepth 100000 in
theorem lp_od3 (pv : PV P) (c : MR h P) (hn : P.fns ≠ []) (ht : t < P.tms.length) (hv : 0 ≤ v ∧ v ≤ 3) (hw : 0 ≤ w ∧ w < 2)
    (k : ∀ h', MR h' P → FrM h h' → K (some (lV (oddR (oddU P.fns P.tms P.gs t v) w))) n h') :
    ∀ (kk i : Nat) (h' : am_H) (is lk rw sp : List Int) (pt rf st an vs lp wa ws wt wv wl : Int), i + kk = bx (Rg P.gs P.tms.length) → FrA h h' → h' 58 = mO P.ft P.tr P.fns.length P.tms.length pt rf st an vs lp wa ws wt wv wl P.rd.length → AR h' is lk rw sp → am_W 150 n (am_M (d + 5)) K 117 [some (rV 58), some (iV t), some (iV v), some (iV w), some (iV (if i < bx (Rg P.gs P.tms.length) then cod (enm (Rg P.gs P.tms.length) i) else -9)), some (iV (sN i (fun j => phi P.fns P.tms t v (enm (Rg P.gs P.tms.length) j)))), some (iV i)] [] n h' := by
  have hW := c.mw pv hn
  have l6 := pv.lt
  have vr := Rg_VR pv.gs P.tms.length
  have hb1 := bx_pos vr
  have hb2 := bx_1728 (T := P.tms.length) pv.gs l6
  have hle : ∀ i, sN i (fun j => phi P.fns P.tms t v (enm (Rg P.gs P.tms.length) j)) ≤ i := sN_le1 (fun j => by unfold phi; split <;> omega)
  intro kk
  induction kk with
  | zero =>
    intro i h' is lk rw sp pt rf st an vs lp wa ws wt wv wl hi f ho ar
    obtain rfl : i = bx (Rg P.gs P.tms.length) := by omega
    have c' := c.fra f ho ar
    have k' := k h' c' f.M
    have ok := odds_ok (t := t) (v := v) pv.wf l6 ht pv.gs hv.2
    have hl := hle (bx (Rg P.gs P.tms.length))
    rw [if_neg (by omega)]
    generalize sN (bx (Rg P.gs P.tms.length)) (fun j => phi P.fns P.tms t v (enm (Rg P.gs P.tms.length) j)) = nn at *
    generalize bx (Rg P.gs P.tms.length) = B at *
    generalize oddU P.fns P.tms P.gs t v = U at *
    obtain ⟨u, rfl⟩ : ∃ u : Nat, U = u := ⟨U.toNat, by
      rcases (by omega : U < 0 ∨ 0 ≤ U) with q | q
      · exfalso
        have h1 : U * (B : Int) < 0 := Int.mul_neg_of_neg_of_pos q (by omega)
        omega
      · omega⟩
    have ok2 : nn * 1728 = u * B := by
      have : ((nn * 1728 : Nat) : Int) = ((u * B : Nat) : Int) := by rw [Int.natCast_mul, Int.natCast_mul]; exact ok
      omega
    obtain ⟨g1, g2⟩ := low_t (by omega) (by omega) ok2
    refine am_runH 400 ?_; simp (disch := omega) only [ow_150, rt_150, rn_150_117, rf_150_117, rn_150_119, rn_150_121, rn_150_124, rn_150_125, rn_150_126, rn_150_128, rn_150_131, rn_150_133, rn_150_134, rn_150_135, rn_150_138, rn_150_139, rn_150_142, rn_150_143, rn_150_144, rn_150_146, rn_150_149, rn_150_150, rn_150_153, rn_150_154, rn_150_157, rn_150_158, rn_150_161, rn_150_162, rn_150_163, rn_150_164, rn_150_167, rn_150_168, rn_150_171, rn_150_172, rn_150_173, rn_150_175, rn_150_178, rn_150_179, rn_150_181, rn_150_184, rn_150_186, rn_150_189, rn_150_191, rn_150_192, rn_150_194, rn_150_195, rn_150_196, rn_150_199, s_iload_4, s_bipush_m9, s_if2_eq, jm_121_68, s_aload_n_0, s_iload_n_1, s_ivv, am_ivq_e, am_cvq_e, am_po_s, am_po_n, am_sl_n, am_sl_i, am_sl_r, am_sl_l, ml_7_173, cq_127, s_iload_5, s_iload_n_2, s_iconst_3, s_if2_ne, jm_135_22, s_gf, am_gfq_e, am_nth_0, am_nth_s, fl_7_64, s_iald, am_iaq_e, s_bipush_30, jm_146_7, s_iconst_1, s_goto, jm_150_22, s_iconst_0, jm_154_18, jm_164_7, jm_168_4, s_iadd, s_istore_5, am_kil_n, am_kil_i, am_kil_r, am_kil_l, s_iinc_6, ml_7_234, cq_149, s_istore_4, jm_186_m69, s_i2l, s_iload_6, s_iload_n_3, s_ivs, am_isv_1, am_isv_3, am_isv_5, s_acp, am_cpq_e, ml_7_237, cq_148, s_lrt, am_orq_e, Int.le_refl, am_c3, am_c4, am_c6, am_c7, am_c8, am_c9, am_c27, am_c60, am_c240, am_c418, am_c3500, am_up_s, am_up_n, am_uu, ne_eq, Nat.reduceAdd, Int.reduceAdd, Int.reduceNeg, Int.reduceLE, Int.reduceToNat, true_and, and_true, List.length_cons, List.length_nil, Nat.reduceLeDiff, Nat.zero_add, Nat.add_zero, Nat.le_refl, true_or, or_true, reduceCtorEq, false_implies, implies_true, true_implies, not_true_eq_false, not_false_eq_true, eq_self, Int.zero_add, Int.reduceEq, Nat.reduceEqDiff]
    refine sp_inLeastTerms (u := nn) (v := B) (by omega) ⟨by omega, by omega⟩ ?_
    refine am_run 400 ?_; simp (disch := omega) only [ow_150, rt_150, rn_150_117, rf_150_117, rn_150_119, rn_150_121, rn_150_124, rn_150_125, rn_150_126, rn_150_128, rn_150_131, rn_150_133, rn_150_134, rn_150_135, rn_150_138, rn_150_139, rn_150_142, rn_150_143, rn_150_144, rn_150_146, rn_150_149, rn_150_150, rn_150_153, rn_150_154, rn_150_157, rn_150_158, rn_150_161, rn_150_162, rn_150_163, rn_150_164, rn_150_167, rn_150_168, rn_150_171, rn_150_172, rn_150_173, rn_150_175, rn_150_178, rn_150_179, rn_150_181, rn_150_184, rn_150_186, rn_150_189, rn_150_191, rn_150_192, rn_150_194, rn_150_195, rn_150_196, rn_150_199, s_iload_4, s_bipush_m9, s_if2_eq, jm_121_68, s_aload_n_0, s_iload_n_1, s_ivv, am_ivq_e, am_cvq_e, am_po_s, am_po_n, am_sl_n, am_sl_i, am_sl_r, am_sl_l, ml_7_173, cq_127, s_iload_5, s_iload_n_2, s_iconst_3, s_if2_ne, jm_135_22, s_gf, am_gfq_e, am_nth_0, am_nth_s, fl_7_64, s_iald, am_iaq_e, s_bipush_30, jm_146_7, s_iconst_1, s_goto, jm_150_22, s_iconst_0, jm_154_18, jm_164_7, jm_168_4, s_iadd, s_istore_5, am_kil_n, am_kil_i, am_kil_r, am_kil_l, s_iinc_6, ml_7_234, cq_149, s_istore_4, jm_186_m69, s_i2l, s_iload_6, s_iload_n_3, s_ivs, am_isv_1, am_isv_3, am_isv_5, s_acp, am_cpq_e, ml_7_237, cq_148, s_lrt, am_orq_e, Int.le_refl, am_c3, am_c4, am_c6, am_c7, am_c8, am_c9, am_c27, am_c60, am_c240, am_c418, am_c3500, am_up_s, am_up_n, am_uu, ne_eq, Nat.reduceAdd, Int.reduceAdd, Int.reduceNeg, Int.reduceLE, Int.reduceToNat, true_and, and_true, List.length_cons, List.length_nil, Nat.reduceLeDiff, Nat.zero_add, Nat.add_zero, Nat.le_refl, true_or, or_true, reduceCtorEq, false_implies, implies_true, true_implies, not_true_eq_false, not_false_eq_true, eq_self, Int.zero_add, Int.reduceEq, Nat.reduceEqDiff]
    have ev : (if w = 0 then (nn : Int) / (Nat.gcd nn B : Int) else (B : Int) / (Nat.gcd nn B : Int)) = oddR u w := by
      unfold oddR
      have eg : (Int.gcd (u : Int) 1728 : Int) = ((Nat.gcd u 1728 : Nat) : Int) := rfl
      rw [eg, ← Int.natCast_ediv, ← Int.natCast_ediv, g1, g2, Int.natCast_ediv, Int.natCast_ediv]
      rfl
    rw [ev]
    exact k'
  | succ kk ih =>
    intro i h' is lk rw sp pt rf st an vs lp wa ws wt wv wl hi f ho ar
    have hiB : i < bx (Rg P.gs P.tms.length) := by omega
    have dg := enm_DG (i := i) vr
    have okd := enm_ok (i := i) vr
    have oo := okD_Rg okd
    have cr := cod_rng dg
    have hl := hle i
    have hW' : MW h' P.fns P.tms P.gs := hW.frame (fun q _ _ => f q (by omega) (by omega))
    have od1 := od_enm vr hiB
    have en : odv [] (od (Rg P.gs P.tms.length) (enm (Rg P.gs P.tms.length) i)) = if i + 1 < bx (Rg P.gs P.tms.length) then cod (enm (Rg P.gs P.tms.length) (i + 1)) else -9 := by
      rw [od1]
      split <;> rfl
    have es : sN (i + 1) (fun j => phi P.fns P.tms t v (enm (Rg P.gs P.tms.length) j)) = sN i (fun j => phi P.fns P.tms t v (enm (Rg P.gs P.tms.length) j)) + phi P.fns P.tms t v (enm (Rg P.gs P.tms.length) i) := rfl
    have ephi : phi P.fns P.tms t v (enm (Rg P.gs P.tms.length) i) = if (mev P.fns P.tms t (cod (enm (Rg P.gs P.tms.length) i))).1 = v then 1 else 0 := rfl
    have hr := evt_rng (bd := cbd (cod (enm (Rg P.gs P.tms.length) i))) (pk := mpk (cod (enm (Rg P.gs P.tms.length) i))) pv.wf l6 (fun x _ => am_and3 _) t ht
    change 0 ≤ (mev P.fns P.tms t (cod (enm (Rg P.gs P.tms.length) i))).1 ∧ (mev P.fns P.tms t (cod (enm (Rg P.gs P.tms.length) i))).1 ≤ 13 at hr
    rw [if_pos hiB]
    refine am_runH 400 ?_; simp (disch := omega) only [ow_150, rt_150, rn_150_117, rf_150_117, rn_150_119, rn_150_121, rn_150_124, rn_150_125, rn_150_126, rn_150_128, rn_150_131, rn_150_133, rn_150_134, rn_150_135, rn_150_138, rn_150_139, rn_150_142, rn_150_143, rn_150_144, rn_150_146, rn_150_149, rn_150_150, rn_150_153, rn_150_154, rn_150_157, rn_150_158, rn_150_161, rn_150_162, rn_150_163, rn_150_164, rn_150_167, rn_150_168, rn_150_171, rn_150_172, rn_150_173, rn_150_175, rn_150_178, rn_150_179, rn_150_181, rn_150_184, rn_150_186, rn_150_189, rn_150_191, rn_150_192, rn_150_194, rn_150_195, rn_150_196, rn_150_199, s_iload_4, s_bipush_m9, s_if2_eq, jm_121_68, s_aload_n_0, s_iload_n_1, s_ivv, am_ivq_e, am_cvq_e, am_po_s, am_po_n, am_sl_n, am_sl_i, am_sl_r, am_sl_l, ml_7_173, cq_127, s_iload_5, s_iload_n_2, s_iconst_3, s_if2_ne, jm_135_22, s_gf, am_gfq_e, am_nth_0, am_nth_s, fl_7_64, s_iald, am_iaq_e, s_bipush_30, jm_146_7, s_iconst_1, s_goto, jm_150_22, s_iconst_0, jm_154_18, jm_164_7, jm_168_4, s_iadd, s_istore_5, am_kil_n, am_kil_i, am_kil_r, am_kil_l, s_iinc_6, ml_7_234, cq_149, s_istore_4, jm_186_m69, s_i2l, s_iload_6, s_iload_n_3, s_ivs, am_isv_1, am_isv_3, am_isv_5, s_acp, am_cpq_e, ml_7_237, cq_148, s_lrt, am_orq_e, Int.le_refl, am_c3, am_c4, am_c6, am_c7, am_c8, am_c9, am_c27, am_c60, am_c240, am_c418, am_c3500, am_up_s, am_up_n, am_uu, ne_eq, Nat.reduceAdd, Int.reduceAdd, Int.reduceNeg, Int.reduceLE, Int.reduceToNat, true_and, and_true, List.length_cons, List.length_nil, Nat.reduceLeDiff, Nat.zero_add, Nat.add_zero, Nat.le_refl, true_or, or_true, reduceCtorEq, false_implies, implies_true, true_implies, not_true_eq_false, not_false_eq_true, eq_self, Int.zero_add, Int.reduceEq, Nat.reduceEqDiff, ho]
    refine ⟨fun z => by omega, fun _ => ?_⟩
    refine sp_findTerms2 ho hW' pv.wf ht (fun x hx => ?_) ar (fun h1 is1 lk1 f1 ho1 ar1 ei el => ?_)
    · rw [mpk_cod dg hx]
      by_cases z : x < P.tms.length
      · have := oo.2 x z; omega
      · rw [List.getD_eq_getElem?_getD, List.getElem?_eq_none (by rw [enm_len, Rg_len]; omega)]
        decide
    · obtain ⟨b1, b2, b3, b4, b5, b6, b7, b8⟩ := id ar1
      have nx := ih (i + 1) h1 is1 lk1 rw sp _ _ _ _ _ _ _ _ _ _ _ (by omega) (f.tr f1) ho1 ar1
      rw [es, ← en] at nx
      have fin : am_M (d + 5) 149 [rV 58, iV (cod (enm (Rg P.gs P.tms.length) i))] n h1 (fun v' n' h' => am_W 150 n (am_M (d + 5)) K 184 [some (rV 58), some (iV t), some (iV v), some (iV w), some (iV (cod (enm (Rg P.gs P.tms.length) i))), some (iV ((sN i (fun j => phi P.fns P.tms t v (enm (Rg P.gs P.tms.length) j)) + phi P.fns P.tms t v (enm (Rg P.gs P.tms.length) i) : Nat) : Int)), some (iV ((i + 1 : Nat) : Int))] (am_po v' []) n' h') := by
        refine sp_nextStand pv.gs pv.lg l6 ho1 (by rw [f1 _ (by omega) (by omega)]; exact hW'.2.2.1) okd dg ?_
        refine am_run 400 ?_; simp (disch := omega) only [ow_150, rt_150, rn_150_178, rn_150_179, rn_150_181, rn_150_184, rn_150_186, rn_150_189, rn_150_191, rn_150_192, rn_150_194, rn_150_195, rn_150_196, rn_150_199, s_aload_n_0, s_iload_4, s_ivv, am_ivq_e, am_cvq_e, am_po_s, am_po_n, am_sl_n, am_sl_i, am_sl_r, am_sl_l, ml_7_234, cq_149, s_istore_4, am_kil_n, am_kil_i, am_kil_r, am_kil_l, s_goto, jm_186_m69, s_iload_5, s_i2l, s_iload_6, s_iload_n_3, s_ivs, am_isv_1, am_isv_3, am_isv_5, s_acp, am_cpq_e, ml_7_237, cq_148, s_lrt, am_orq_e, Int.le_refl, am_c3, am_c4, am_c6, am_c7, am_c8, am_c9, am_c27, am_c60, am_c240, am_c418, am_c3500, am_up_s, am_up_n, am_uu, ne_eq, Nat.reduceAdd, Int.reduceAdd, Int.reduceNeg, Int.reduceLE, Int.reduceToNat, true_and, and_true, List.length_cons, List.length_nil, Nat.reduceLeDiff, Nat.zero_add, Nat.add_zero, Nat.le_refl, true_or, or_true, reduceCtorEq, false_implies, implies_true, true_implies, not_true_eq_false, not_false_eq_true, eq_self, Int.zero_add, Int.reduceEq, Nat.reduceEqDiff]
        exact nx
      generalize phi P.fns P.tms t v (enm (Rg P.gs P.tms.length) i) = ph at *
      generalize (mev P.fns P.tms t (cod (enm (Rg P.gs P.tms.length) i))).1 = o at *
      generalize sN i (fun j => phi P.fns P.tms t v (enm (Rg P.gs P.tms.length) j)) = nn at *
      refine am_run 400 ?_; simp (disch := omega) only [ow_150, rt_150, rn_150_117, rf_150_117, rn_150_119, rn_150_121, rn_150_124, rn_150_125, rn_150_126, rn_150_128, rn_150_131, rn_150_133, rn_150_134, rn_150_135, rn_150_138, rn_150_139, rn_150_142, rn_150_143, rn_150_144, rn_150_146, rn_150_149, rn_150_150, rn_150_153, rn_150_154, rn_150_157, rn_150_158, rn_150_161, rn_150_162, rn_150_163, rn_150_164, rn_150_167, rn_150_168, rn_150_171, rn_150_172, rn_150_173, rn_150_175, rn_150_178, rn_150_179, rn_150_181, rn_150_184, s_iload_4, s_bipush_m9, s_if2_eq, jm_121_68, s_aload_n_0, s_iload_n_1, s_ivv, am_ivq_e, am_cvq_e, am_po_s, am_po_n, am_sl_n, am_sl_i, am_sl_r, am_sl_l, ml_7_173, cq_127, s_iload_5, s_iload_n_2, s_iconst_3, s_if2_ne, jm_135_22, s_gf, am_gfq_e, am_nth_0, am_nth_s, fl_7_64, s_iald, am_iaq_e, s_bipush_30, jm_146_7, s_iconst_1, s_goto, jm_150_22, s_iconst_0, jm_154_18, jm_164_7, jm_168_4, s_iadd, s_istore_5, am_kil_n, am_kil_i, am_kil_r, am_kil_l, s_iinc_6, ml_7_234, cq_149, s_istore_4, Int.le_refl, am_c3, am_c4, am_c6, am_c7, am_c8, am_c9, am_c27, am_c60, am_c240, am_c418, am_c3500, am_up_s, am_up_n, am_uu, ne_eq, Nat.reduceAdd, Int.reduceAdd, Int.reduceNeg, Int.reduceLE, Int.reduceToNat, true_and, and_true, List.length_cons, List.length_nil, Nat.reduceLeDiff, Nat.zero_add, Nat.add_zero, Nat.le_refl, true_or, or_true, reduceCtorEq, false_implies, implies_true, true_implies, not_true_eq_false, not_false_eq_true, eq_self, Int.zero_add, Int.reduceEq, Nat.reduceEqDiff, ho1, b1, b5, ei, Int.toNat_natCast, am_i1]
      rw [Int.add_zero, wr_ok (by omega) (by omega)]
      have mcs := mc_cs hr
      refine ⟨fun z => ⟨by omega, fun z1 => ?_, fun z1 => ?_⟩, fun z => ⟨by omega, fun z1 => ?_, fun z1 => ?_⟩⟩
      · rw [if_neg (by omega)] at ephi
        subst ephi
        exact fin
      · rw [if_pos (by omega)] at ephi
        subst ephi
        exact fin
      · rw [if_neg (by omega)] at ephi
        subst ephi
        exact fin
      · rw [if_pos (by omega)] at ephi
        subst ephi
        exact fin
theorem ml_odds {t v w : Int} (pv : PV P) (c : MR h P) (k : ∀ h', MR h' P → FrM h h' → K (some (lV (op_odds P t v w))) n h') : am_M (d + 6) 150 [rV 58, iV t, iV v, iV w] n h K := by
  obtain ⟨pt, rf, st, an, vs, lp, wa, ws, wt, wv, wl, ho⟩ := c.ob
  obtain ⟨is, lk, rw, sp, ar⟩ := c.ar
  unfold op_odds at k
  have bad : ¬ (okT P t ∧ (0 ≤ v ∧ v < 4) ∧ (0 ≤ w ∧ w < 2)) → K (some (lV lostV)) n h := by
    intro z
    rw [if_pos z] at k
    exact k h c FrM.rf
  refine en_150 (am_run 400 ?_); simp (disch := omega) only [ow_150, rt_150, rn_150_0, rn_150_1, rn_150_2, rn_150_5, rn_150_8, rn_150_9, rn_150_10, rn_150_11, rn_150_14, rn_150_17, rn_150_18, rn_150_19, rn_150_20, rn_150_23, rn_150_26, rn_150_29, rn_150_30, rn_150_31, rn_150_33, rn_150_34, rn_150_36, rf_150_36, s_aload_n_0, s_iload_n_1, s_ivv, am_ivq_e, am_cvq_e, am_po_s, am_po_n, am_sl_n, am_sl_i, am_sl_r, am_sl_l, ml_7_151, cq_107, s_if1_eq, jm_5_21, s_iload_n_2, s_iconst_0, s_iconst_3, s_ivs, am_isv_1, am_isv_3, am_isv_5, s_acp, am_cpq_e, ml_7_91, cq_102, jm_14_12, s_iload_n_3, s_iconst_1, s_if1_ne, jm_23_7, s_ldc2, am_ldc2_e, cg_7_89, s_lrt, am_orq_e, s_istore_4, am_kil_n, am_kil_i, am_kil_r, am_kil_l, s_istore_5, s_iload_5, Int.le_refl, am_c3, am_c4, am_c6, am_c7, am_c8, am_c9, am_c27, am_c60, am_c240, am_c418, am_c3500, am_up_s, am_up_n, am_uu, ne_eq, Nat.reduceAdd, Int.reduceAdd, Int.reduceNeg, Int.reduceLE, Int.reduceToNat, true_and, and_true, List.length_cons, List.length_nil, Nat.reduceLeDiff, Nat.zero_add, Nat.add_zero, Nat.le_refl, true_or, or_true, reduceCtorEq, false_implies, implies_true, true_implies, not_true_eq_false, not_false_eq_true, eq_self, Int.zero_add, Int.reduceEq, Nat.reduceEqDiff, ho]
  refine sp_isTerm ho (fun q => ?_) (fun q => ?_)
  · refine am_run 400 ?_; simp (disch := omega) only [ow_150, rt_150, rn_150_0, rn_150_1, rn_150_2, rn_150_5, rn_150_8, rn_150_9, rn_150_10, rn_150_11, rn_150_14, rn_150_17, rn_150_18, rn_150_19, rn_150_20, rn_150_23, rn_150_26, rn_150_29, rn_150_30, rn_150_31, rn_150_33, rn_150_34, rn_150_36, rf_150_36, s_aload_n_0, s_iload_n_1, s_ivv, am_ivq_e, am_cvq_e, am_po_s, am_po_n, am_sl_n, am_sl_i, am_sl_r, am_sl_l, ml_7_151, cq_107, s_if1_eq, jm_5_21, s_iload_n_2, s_iconst_0, s_iconst_3, s_ivs, am_isv_1, am_isv_3, am_isv_5, s_acp, am_cpq_e, ml_7_91, cq_102, jm_14_12, s_iload_n_3, s_iconst_1, s_if1_ne, jm_23_7, s_ldc2, am_ldc2_e, cg_7_89, s_lrt, am_orq_e, s_istore_4, am_kil_n, am_kil_i, am_kil_r, am_kil_l, s_istore_5, s_iload_5, Int.le_refl, am_c3, am_c4, am_c6, am_c7, am_c8, am_c9, am_c27, am_c60, am_c240, am_c418, am_c3500, am_up_s, am_up_n, am_uu, ne_eq, Nat.reduceAdd, Int.reduceAdd, Int.reduceNeg, Int.reduceLE, Int.reduceToNat, true_and, and_true, List.length_cons, List.length_nil, Nat.reduceLeDiff, Nat.zero_add, Nat.add_zero, Nat.le_refl, true_or, or_true, reduceCtorEq, false_implies, implies_true, true_implies, not_true_eq_false, not_false_eq_true, eq_self, Int.zero_add, Int.reduceEq, Nat.reduceEqDiff]
    refine sp_within (fun q1 => ?_) (fun q1 => ?_)
    · refine am_run 400 ?_; simp (disch := omega) only [ow_150, rt_150, rn_150_0, rn_150_1, rn_150_2, rn_150_5, rn_150_8, rn_150_9, rn_150_10, rn_150_11, rn_150_14, rn_150_17, rn_150_18, rn_150_19, rn_150_20, rn_150_23, rn_150_26, rn_150_29, rn_150_30, rn_150_31, rn_150_33, rn_150_34, rn_150_36, rf_150_36, s_aload_n_0, s_iload_n_1, s_ivv, am_ivq_e, am_cvq_e, am_po_s, am_po_n, am_sl_n, am_sl_i, am_sl_r, am_sl_l, ml_7_151, cq_107, s_if1_eq, jm_5_21, s_iload_n_2, s_iconst_0, s_iconst_3, s_ivs, am_isv_1, am_isv_3, am_isv_5, s_acp, am_cpq_e, ml_7_91, cq_102, jm_14_12, s_iload_n_3, s_iconst_1, s_if1_ne, jm_23_7, s_ldc2, am_ldc2_e, cg_7_89, s_lrt, am_orq_e, s_istore_4, am_kil_n, am_kil_i, am_kil_r, am_kil_l, s_istore_5, s_iload_5, Int.le_refl, am_c3, am_c4, am_c6, am_c7, am_c8, am_c9, am_c27, am_c60, am_c240, am_c418, am_c3500, am_up_s, am_up_n, am_uu, ne_eq, Nat.reduceAdd, Int.reduceAdd, Int.reduceNeg, Int.reduceLE, Int.reduceToNat, true_and, and_true, List.length_cons, List.length_nil, Nat.reduceLeDiff, Nat.zero_add, Nat.add_zero, Nat.le_refl, true_or, or_true, reduceCtorEq, false_implies, implies_true, true_implies, not_true_eq_false, not_false_eq_true, eq_self, Int.zero_add, Int.reduceEq, Nat.reduceEqDiff]
      refine sp_within (fun q2 => ?_) (fun q2 => ?_)
      · rw [if_neg (fun z => z ⟨q, by omega, by omega⟩)] at k
        obtain ⟨tn, rfl⟩ : ∃ tn : Nat, t = tn := ⟨t.toNat, by omega⟩
        rw [Int.toNat_natCast] at k
        have hW := c.mw pv (pv.nn q)
        have vr := Rg_VR pv.gs P.tms.length
        have go := lp_od3 (d := d) pv c (pv.nn q) (by omega) q1 (by omega) k (bx (Rg P.gs P.tms.length)) 0 h is lk rw sp _ _ _ _ _ _ _ _ _ _ _ (by omega) FrA.rf ho ar
        have hb0 : 0 < bx (Rg P.gs P.tms.length) := bx_pos vr
        rw [if_pos hb0] at go
        refine am_run 400 ?_; simp (disch := omega) only [ow_150, rt_150, rn_150_0, rn_150_1, rn_150_2, rn_150_5, rn_150_8, rn_150_9, rn_150_10, rn_150_11, rn_150_14, rn_150_17, rn_150_18, rn_150_19, rn_150_20, rn_150_23, rn_150_26, rn_150_29, rn_150_30, rn_150_31, rn_150_33, rn_150_34, rn_150_36, rf_150_36, s_aload_n_0, s_iload_n_1, s_ivv, am_ivq_e, am_cvq_e, am_po_s, am_po_n, am_sl_n, am_sl_i, am_sl_r, am_sl_l, ml_7_151, cq_107, s_if1_eq, jm_5_21, s_iload_n_2, s_iconst_0, s_iconst_3, s_ivs, am_isv_1, am_isv_3, am_isv_5, s_acp, am_cpq_e, ml_7_91, cq_102, jm_14_12, s_iload_n_3, s_iconst_1, s_if1_ne, jm_23_7, s_ldc2, am_ldc2_e, cg_7_89, s_lrt, am_orq_e, s_istore_4, am_kil_n, am_kil_i, am_kil_r, am_kil_l, s_istore_5, s_iload_5, Int.le_refl, am_c3, am_c4, am_c6, am_c7, am_c8, am_c9, am_c27, am_c60, am_c240, am_c418, am_c3500, am_up_s, am_up_n, am_uu, ne_eq, Nat.reduceAdd, Int.reduceAdd, Int.reduceNeg, Int.reduceLE, Int.reduceToNat, true_and, and_true, List.length_cons, List.length_nil, Nat.reduceLeDiff, Nat.zero_add, Nat.add_zero, Nat.le_refl, true_or, or_true, reduceCtorEq, false_implies, implies_true, true_implies, not_true_eq_false, not_false_eq_true, eq_self, Int.zero_add, Int.reduceEq, Nat.reduceEqDiff]
        exact lp_od1 pv.lt pv.gs pv.lg ho hW.2.2.1 go 3 0 (by omega)
      · refine am_run 400 ?_; simp (disch := omega) only [ow_150, rt_150, rn_150_0, rn_150_1, rn_150_2, rn_150_5, rn_150_8, rn_150_9, rn_150_10, rn_150_11, rn_150_14, rn_150_17, rn_150_18, rn_150_19, rn_150_20, rn_150_23, rn_150_26, rn_150_29, rn_150_30, rn_150_31, rn_150_33, rn_150_34, rn_150_36, rf_150_36, s_aload_n_0, s_iload_n_1, s_ivv, am_ivq_e, am_cvq_e, am_po_s, am_po_n, am_sl_n, am_sl_i, am_sl_r, am_sl_l, ml_7_151, cq_107, s_if1_eq, jm_5_21, s_iload_n_2, s_iconst_0, s_iconst_3, s_ivs, am_isv_1, am_isv_3, am_isv_5, s_acp, am_cpq_e, ml_7_91, cq_102, jm_14_12, s_iload_n_3, s_iconst_1, s_if1_ne, jm_23_7, s_ldc2, am_ldc2_e, cg_7_89, s_lrt, am_orq_e, s_istore_4, am_kil_n, am_kil_i, am_kil_r, am_kil_l, s_istore_5, s_iload_5, Int.le_refl, am_c3, am_c4, am_c6, am_c7, am_c8, am_c9, am_c27, am_c60, am_c240, am_c418, am_c3500, am_up_s, am_up_n, am_uu, ne_eq, Nat.reduceAdd, Int.reduceAdd, Int.reduceNeg, Int.reduceLE, Int.reduceToNat, true_and, and_true, List.length_cons, List.length_nil, Nat.reduceLeDiff, Nat.zero_add, Nat.add_zero, Nat.le_refl, true_or, or_true, reduceCtorEq, false_implies, implies_true, true_implies, not_true_eq_false, not_false_eq_true, eq_self, Int.zero_add, Int.reduceEq, Nat.reduceEqDiff]
        rw [wrL_lost]
        exact bad (by omega)
    · refine am_run 400 ?_; simp (disch := omega) only [ow_150, rt_150, rn_150_0, rn_150_1, rn_150_2, rn_150_5, rn_150_8, rn_150_9, rn_150_10, rn_150_11, rn_150_14, rn_150_17, rn_150_18, rn_150_19, rn_150_20, rn_150_23, rn_150_26, rn_150_29, rn_150_30, rn_150_31, rn_150_33, rn_150_34, rn_150_36, rf_150_36, s_aload_n_0, s_iload_n_1, s_ivv, am_ivq_e, am_cvq_e, am_po_s, am_po_n, am_sl_n, am_sl_i, am_sl_r, am_sl_l, ml_7_151, cq_107, s_if1_eq, jm_5_21, s_iload_n_2, s_iconst_0, s_iconst_3, s_ivs, am_isv_1, am_isv_3, am_isv_5, s_acp, am_cpq_e, ml_7_91, cq_102, jm_14_12, s_iload_n_3, s_iconst_1, s_if1_ne, jm_23_7, s_ldc2, am_ldc2_e, cg_7_89, s_lrt, am_orq_e, s_istore_4, am_kil_n, am_kil_i, am_kil_r, am_kil_l, s_istore_5, s_iload_5, Int.le_refl, am_c3, am_c4, am_c6, am_c7, am_c8, am_c9, am_c27, am_c60, am_c240, am_c418, am_c3500, am_up_s, am_up_n, am_uu, ne_eq, Nat.reduceAdd, Int.reduceAdd, Int.reduceNeg, Int.reduceLE, Int.reduceToNat, true_and, and_true, List.length_cons, List.length_nil, Nat.reduceLeDiff, Nat.zero_add, Nat.add_zero, Nat.le_refl, true_or, or_true, reduceCtorEq, false_implies, implies_true, true_implies, not_true_eq_false, not_false_eq_true, eq_self, Int.zero_add, Int.reduceEq, Nat.reduceEqDiff]
      rw [wrL_lost]
      exact bad (by omega)
  · refine am_run 400 ?_; simp (disch := omega) only [ow_150, rt_150, rn_150_0, rn_150_1, rn_150_2, rn_150_5, rn_150_8, rn_150_9, rn_150_10, rn_150_11, rn_150_14, rn_150_17, rn_150_18, rn_150_19, rn_150_20, rn_150_23, rn_150_26, rn_150_29, rn_150_30, rn_150_31, rn_150_33, rn_150_34, rn_150_36, rf_150_36, s_aload_n_0, s_iload_n_1, s_ivv, am_ivq_e, am_cvq_e, am_po_s, am_po_n, am_sl_n, am_sl_i, am_sl_r, am_sl_l, ml_7_151, cq_107, s_if1_eq, jm_5_21, s_iload_n_2, s_iconst_0, s_iconst_3, s_ivs, am_isv_1, am_isv_3, am_isv_5, s_acp, am_cpq_e, ml_7_91, cq_102, jm_14_12, s_iload_n_3, s_iconst_1, s_if1_ne, jm_23_7, s_ldc2, am_ldc2_e, cg_7_89, s_lrt, am_orq_e, s_istore_4, am_kil_n, am_kil_i, am_kil_r, am_kil_l, s_istore_5, s_iload_5, Int.le_refl, am_c3, am_c4, am_c6, am_c7, am_c8, am_c9, am_c27, am_c60, am_c240, am_c418, am_c3500, am_up_s, am_up_n, am_uu, ne_eq, Nat.reduceAdd, Int.reduceAdd, Int.reduceNeg, Int.reduceLE, Int.reduceToNat, true_and, and_true, List.length_cons, List.length_nil, Nat.reduceLeDiff, Nat.zero_add, Nat.add_zero, Nat.le_refl, true_or, or_true, reduceCtorEq, false_implies, implies_true, true_implies, not_true_eq_false, not_false_eq_true, eq_self, Int.zero_add, Int.reduceEq, Nat.reduceEqDiff]
    rw [wrL_lost]
    exact bad (by omega)
end
