/-! MODEL 21: functions of a text -/
section
variable {d n : Nat} {h : am_H} {K : am_K} {ft tr fc tc rf st an vs lp wa ws wt wv wl rc : Int} {e : List Int} {c : Nat → Int} {fs len x : Nat} {A B C E G : List Int}
/-- twigs of function f, the first k -/
def TS (f k : Nat) (l : List (Int × List Int)) (E G E' G' : List Int) : Prop := (∀ v, v < k → E'.getD (3 * f + v) 0 = (l.getD v tw0d).1 ∧ ((l.getD v tw0d).1 = 14 → ∀ u, u < 3 → G'.getD (9 * f + 3 * v + u) 0 = p4 ((l.getD v tw0d).2.getD u 0))) ∧ (∀ j, j < 3 * f ∨ 3 * f + 3 ≤ j → E'.getD j 0 = E.getD j 0) ∧ ∀ j, j < 9 * f ∨ 9 * f + 9 ≤ j → G'.getD j 0 = G.getD j 0
theorem TS.add {f k : Nat} {l : List (Int × List Int)} {E0 G0 E' G' E2 G2 : List Int} {t : Int} {m : List Int} (hk : k < 3) (hl : l.length = k) (a : TS f k l E0 G0 E' G') (b : TQ (3 * f + k) t m E' G' E2 G2) : TS f (k + 1) (l ++ [(t, m)]) E0 G0 E2 G2 := by
  obtain ⟨b1, b2, b3, b4⟩ := b
  refine ⟨fun v hv => ?_, fun j hj => ?_, fun j hj => ?_⟩
  · by_cases q : v = k
    · subst q
      rw [gd_ar hl.symm]
      refine ⟨b1, fun z u hu => ?_⟩
      have := b3 z u hu
      rw [show 3 * (3 * f + v) + u = 9 * f + 3 * v + u by omega] at this
      exact this
    · rw [gd_al (by omega), b2 _ (by omega)]
      refine ⟨(a.1 v (by omega)).1, fun z u hu => ?_⟩
      rw [b4 _ (by omega)]
      exact (a.1 v (by omega)).2 z u hu
  · rw [b2 _ (by omega)]; exact a.2.1 j hj
  · rw [b4 _ (by omega)]; exact a.2.2 j hj
theorem lp_mtwigs {f y0 : Nat} {code : Int} (hf : f < 3) (h61 : h 61 = aC e) (le : e.length = 240) (hfs : fs + len ≤ 240) (hc : ∀ x, x < len → e.getD (fs + x) 0 = c x)
    (k1 : ∀ l a E' G' h', pts c len 3 y0 = (some l, a) → a ≤ len → FrP h h' → h' 58 = mO ft tr fc tc ((fs + a : Nat) : Int) rf st an vs lp wa ws wt wv wl rc → PX h' A B C E' G' → TS f 3 l E G E' G' → K (some (iV 1)) n h')
    (k0 : ∀ a E' G' h', pts c len 3 y0 = (none, a) → FrP h h' → h' 58 = mO ft tr fc tc ((fs + a : Nat) : Int) rf st an vs lp wa ws wt wv wl rc → PX h' A B C E' G' → K (some (iV 0)) n h') :
    ∀ (k v : Nat) (E' G' : List Int) (l : List (Int × List Int)) (y : Nat) (h' : am_H), v + k = 3 → y ≤ len → l.length = v → FrP h h' → h' 58 = mO ft tr fc tc ((fs + y : Nat) : Int) rf st an vs lp wa ws wt wv wl rc → PX h' A B C E' G' → TS f v l E G E' G' → (∀ l2 a, pts c len k y = (l2, a) → pts c len 3 y0 = (l2.map (fun z => l ++ z), a)) →
      am_W 112 n (am_M (d + 3)) K 139 [some (rV 58), some (iV ((fs + len : Nat) : Int)), some (iV f), some (iV code), some (iV v)] [] n h' := by
  intro k
  induction k with
  | zero =>
    intro v E' G' l y h' hv hy hl fr ho px ts hpb
    obtain rfl : v = 3 := by omega
    refine am_runH 400 ?_; simp (disch := omega) only [ow_112, rt_112, rn_112_139, rf_112_139, rn_112_141, rn_112_142, rn_112_145, rn_112_146, rn_112_147, rn_112_148, rn_112_149, rn_112_150, rn_112_152, rn_112_153, rn_112_156, rn_112_159, rn_112_160, rn_112_161, rn_112_164, rn_112_167, rn_112_168, s_iload_4, s_iconst_3, s_if2_ge, jm_142_25, s_aload_n_0, s_iload_n_1, s_iload_n_2, s_imul, s_iadd, s_ivv, am_ivq_e, am_cvq_e, am_po_s, am_po_n, am_sl_n, am_sl_i, am_sl_r, am_sl_l, ml_7_139, cq_113, s_if1_ne, jm_156_5, s_iconst_0, s_irt, am_irq_1, am_irq_2, s_iinc_4, am_kil_n, am_kil_i, am_kil_r, am_kil_l, s_goto, jm_164_m25, s_iconst_1, Int.le_refl, am_c3, am_c4, am_c6, am_c7, am_c8, am_c9, am_c27, am_c60, am_c240, am_c418, am_c3500, am_up_s, am_up_n, am_uu, ne_eq, Nat.reduceAdd, Int.reduceAdd, Int.reduceNeg, Int.reduceLE, Int.reduceToNat, true_and, and_true, List.length_cons, List.length_nil, Nat.reduceLeDiff, Nat.zero_add, Nat.add_zero, Nat.le_refl, true_or, or_true, reduceCtorEq, false_implies, implies_true, true_implies, not_true_eq_false, not_false_eq_true, eq_self, Int.zero_add, Int.reduceEq, Nat.reduceEqDiff]
    have h1 := hpb (some []) y rfl
    simp only [Option.map_some, List.append_nil] at h1
    exact k1 l y E' G' h' h1 hy fr ho px ts
  | succ k ih =>
    intro v E' G' l y h' hv hy hl fr ho px ts hpb
    have h61' : h' 61 = aC e := by rw [fr _ (by omega) (by omega)]; exact h61
    have e1 : 3 * (f : Int) + v = ((3 * f + v : Nat) : Int) := by omega
    refine am_runH 400 ?_; simp (disch := omega) only [ow_112, rt_112, rn_112_139, rf_112_139, rn_112_141, rn_112_142, rn_112_145, rn_112_146, rn_112_147, rn_112_148, rn_112_149, rn_112_150, rn_112_152, rn_112_153, rn_112_156, rn_112_159, rn_112_160, rn_112_161, rn_112_164, rn_112_167, rn_112_168, s_iload_4, s_iconst_3, s_if2_ge, jm_142_25, s_aload_n_0, s_iload_n_1, s_iload_n_2, s_imul, s_iadd, s_ivv, am_ivq_e, am_cvq_e, am_po_s, am_po_n, am_sl_n, am_sl_i, am_sl_r, am_sl_l, ml_7_139, cq_113, s_if1_ne, jm_156_5, s_iconst_0, s_irt, am_irq_1, am_irq_2, s_iinc_4, am_kil_n, am_kil_i, am_kil_r, am_kil_l, s_goto, jm_164_m25, s_iconst_1, Int.le_refl, am_c3, am_c4, am_c6, am_c7, am_c8, am_c9, am_c27, am_c60, am_c240, am_c418, am_c3500, am_up_s, am_up_n, am_uu, ne_eq, Nat.reduceAdd, Int.reduceAdd, Int.reduceNeg, Int.reduceLE, Int.reduceToNat, true_and, and_true, List.length_cons, List.length_nil, Nat.reduceLeDiff, Nat.zero_add, Nat.add_zero, Nat.le_refl, true_or, or_true, reduceCtorEq, false_implies, implies_true, true_implies, not_true_eq_false, not_false_eq_true, eq_self, Int.zero_add, Int.reduceEq, Nat.reduceEqDiff, ho, wr_ok, e1]
    refine ⟨fun z => by omega, fun _ => ?_⟩
    refine sp_mreadTwig (by omega) ho h61' le hfs hc hy px (fun t m a E2 G2 h2 et f2 ho2 px2 tq => ?_) (fun a E2 G2 h2 et f2 ho2 px2 => ?_)
    · refine am_run 400 ?_; simp (disch := omega) only [ow_112, rt_112, rn_112_139, rf_112_139, rn_112_141, rn_112_142, rn_112_145, rn_112_146, rn_112_147, rn_112_148, rn_112_149, rn_112_150, rn_112_152, rn_112_153, rn_112_156, rn_112_159, rn_112_160, rn_112_161, rn_112_164, rn_112_167, rn_112_168, s_iload_4, s_iconst_3, s_if2_ge, jm_142_25, s_aload_n_0, s_iload_n_1, s_iload_n_2, s_imul, s_iadd, s_ivv, am_ivq_e, am_cvq_e, am_po_s, am_po_n, am_sl_n, am_sl_i, am_sl_r, am_sl_l, ml_7_139, cq_113, s_if1_ne, jm_156_5, s_iconst_0, s_irt, am_irq_1, am_irq_2, s_iinc_4, am_kil_n, am_kil_i, am_kil_r, am_kil_l, s_goto, jm_164_m25, s_iconst_1, Int.le_refl, am_c3, am_c4, am_c6, am_c7, am_c8, am_c9, am_c27, am_c60, am_c240, am_c418, am_c3500, am_up_s, am_up_n, am_uu, ne_eq, Nat.reduceAdd, Int.reduceAdd, Int.reduceNeg, Int.reduceLE, Int.reduceToNat, true_and, and_true, List.length_cons, List.length_nil, Nat.reduceLeDiff, Nat.zero_add, Nat.add_zero, Nat.le_refl, true_or, or_true, reduceCtorEq, false_implies, implies_true, true_implies, not_true_eq_false, not_false_eq_true, eq_self, Int.zero_add, Int.reduceEq, Nat.reduceEqDiff, am_i1]
      refine ih (v + 1) E2 G2 (l ++ [(t, m)]) a h2 (by omega) (ptw_le et hy) (by simp; exact hl) (fr.tr f2) ho2 px2 (ts.add (by omega) hl tq) (fun l2 b hb2 => ?_)
      have h1 := hpb (l2.map (fun y => (t, m) :: y)) b (by
        unfold pts
        rw [et]
        dsimp only
        rw [hb2]
        cases l2 <;> rfl)
      rw [h1]
      cases l2 <;> simp
    · refine am_run 400 ?_; simp (disch := omega) only [ow_112, rt_112, rn_112_139, rf_112_139, rn_112_141, rn_112_142, rn_112_145, rn_112_146, rn_112_147, rn_112_148, rn_112_149, rn_112_150, rn_112_152, rn_112_153, rn_112_156, rn_112_159, rn_112_160, rn_112_161, rn_112_164, rn_112_167, rn_112_168, s_iload_4, s_iconst_3, s_if2_ge, jm_142_25, s_aload_n_0, s_iload_n_1, s_iload_n_2, s_imul, s_iadd, s_ivv, am_ivq_e, am_cvq_e, am_po_s, am_po_n, am_sl_n, am_sl_i, am_sl_r, am_sl_l, ml_7_139, cq_113, s_if1_ne, jm_156_5, s_iconst_0, s_irt, am_irq_1, am_irq_2, s_iinc_4, am_kil_n, am_kil_i, am_kil_r, am_kil_l, s_goto, jm_164_m25, s_iconst_1, Int.le_refl, am_c3, am_c4, am_c6, am_c7, am_c8, am_c9, am_c27, am_c60, am_c240, am_c418, am_c3500, am_up_s, am_up_n, am_uu, ne_eq, Nat.reduceAdd, Int.reduceAdd, Int.reduceNeg, Int.reduceLE, Int.reduceToNat, true_and, and_true, List.length_cons, List.length_nil, Nat.reduceLeDiff, Nat.zero_add, Nat.add_zero, Nat.le_refl, true_or, or_true, reduceCtorEq, false_implies, implies_true, true_implies, not_true_eq_false, not_false_eq_true, eq_self, Int.zero_add, Int.reduceEq, Nat.reduceEqDiff]
      have h1 := hpb none a (by unfold pts; rw [et])
      exact k0 a E2 G2 h2 h1 (fr.tr f2) ho2 px2
/-- function f was read -/
def FQ (f : Nat) (R : PrT) (A B C E G A' B' C' E' G' : List Int) : Prop := (A'.getD f 0 = R.1 ∧ B'.getD f 0 = R.2.1 ∧ C'.getD f 0 = R.2.2.1) ∧ (∀ j, j ≠ f → A'.getD j 0 = A.getD j 0 ∧ B'.getD j 0 = B.getD j 0 ∧ C'.getD j 0 = C.getD j 0) ∧ TS f 3 R.2.2.2 E G E' G'
set_option maxRecDepth 100000 in
theorem sp_mreadFunction {f : Nat} (hf : f < 3) (ho : h 58 = mO ft tr fc tc ((fs + x : Nat) : Int) rf st an vs lp wa ws wt wv wl rc) (h61 : h 61 = aC e) (le : e.length = 240) (hfs : fs + len ≤ 240) (hc : ∀ x, x < len → e.getD (fs + x) 0 = c x) (hx : x ≤ len) (px : PX h A B C E G)
    (k1 : ∀ R a A' B' C' E' G' h', pfn c len x = (some R, a) → a ≤ len → FrP h h' → h' 58 = mO ft tr fc tc ((fs + a : Nat) : Int) rf st an vs lp wa ws wt wv wl rc → PX h' A' B' C' E' G' → FQ f R A B C E G A' B' C' E' G' → K (some (iV 1)) n h')
    (k0 : ∀ a A' B' C' E' G' h', pfn c len x = (none, a) → FrP h h' → h' 58 = mO ft tr fc tc ((fs + a : Nat) : Int) rf st an vs lp wa ws wt wv wl rc → PX h' A' B' C' E' G' → K (some (iV 0)) n h') : am_M (d + 4) 112 [rV 58, iV ((fs + len : Nat) : Int), iV f] n h K := by
  obtain ⟨a1, a2, a3, a4, a5, b1, b2, b3, b4, b5⟩ := id px
  have e1 : ((fs + x : Nat) : Int) + 1 = ((fs + (x + 1) : Nat) : Int) := by omega
  have bad : pkd c len x = (none, x) → K (some (iV 0)) n (am_up h 72 (aC (A.set f (-9)))) := by
    intro ek
    refine k0 x _ _ _ _ _ _ (by unfold pfn; rw [ek]) (FrP.rf.up (by omega)) (by rw [am_up_n (by omega)]; exact ho) ⟨am_up_s, by rw [am_up_n (by omega)]; exact a2, by rw [am_up_n (by omega)]; exact a3, by rw [am_up_n (by omega)]; exact a4, by rw [am_up_n (by omega)]; exact a5, by simpa using b1, b2, b3, b4, b5⟩
  have rest : ∀ kv code : Int, pkd c len x = (some kv, x + 1) → am_M (d + 3) 108 [rV 58, iV ((fs + len : Nat) : Int), iV 1, iV 9] n (am_up (am_up h 72 (aC (A.set f kv))) 58 (mO ft tr fc tc ((fs + (x + 1) : Nat) : Int) rf st an vs lp wa ws wt wv wl rc)) (fun v n' h' => am_W 112 n (am_M (d + 3)) K 96 [some (rV 58), some (iV ((fs + len : Nat) : Int)), some (iV f), some (iV code), none] (am_po v [iV f, rV 73]) n' h') := by
    intro kv code ek
    have hx1 := pkd_le ek hx
    have pxk : PX (am_up (am_up h 72 (aC (A.set f kv))) 58 (mO ft tr fc tc ((fs + (x + 1) : Nat) : Int) rf st an vs lp wa ws wt wv wl rc)) (A.set f kv) B C E G := ⟨by rw [am_up_n (by omega), am_up_s], by rw [am_up_n (by omega), am_up_n (by omega)]; exact a2, by rw [am_up_n (by omega), am_up_n (by omega)]; exact a3, by rw [am_up_n (by omega), am_up_n (by omega)]; exact a4, by rw [am_up_n (by omega), am_up_n (by omega)]; exact a5, by simpa using b1, b2, b3, b4, b5⟩
    have frk : FrP h (am_up (am_up h 72 (aC (A.set f kv))) 58 (mO ft tr fc tc ((fs + (x + 1) : Nat) : Int) rf st an vs lp wa ws wt wv wl rc)) := (FrP.rf.up (by omega)).up (by omega)
    have hok : (am_up (am_up h 72 (aC (A.set f kv))) 58 (mO ft tr fc tc ((fs + (x + 1) : Nat) : Int) rf st an vs lp wa ws wt wv wl rc)) 58 = mO ft tr fc tc ((fs + (x + 1) : Nat) : Int) rf st an vs lp wa ws wt wv wl rc := am_up_s
    generalize am_up (am_up h 72 (aC (A.set f kv))) 58 (mO ft tr fc tc ((fs + (x + 1) : Nat) : Int) rf st an vs lp wa ws wt wv wl rc) = H at *
    have h61k : H 61 = aC e := by rw [frk _ (by omega) (by omega)]; exact h61
    refine sp_digit hok h61k le hfs hc hx1 (by omega) (fun pr a h2 ep f2 ho2 => ?_) (fun ep => ?_)
    · have hp := pd_in ep
      have ha := pd_le ep hx1
      obtain ⟨c1, c2, c3, c4, c5, _, _, _, _, _⟩ := pxk.fr f2
      refine am_run 400 ?_; simp (disch := omega) only [ow_112, rt_112, rn_112_74, rn_112_75, rn_112_78, rn_112_79, rn_112_80, rn_112_83, rn_112_84, rn_112_87, rn_112_88, rn_112_89, rn_112_90, rn_112_91, rn_112_93, rn_112_96, rn_112_97, rn_112_98, rn_112_101, rn_112_102, rn_112_103, rn_112_105, rn_112_108, rn_112_109, rn_112_110, rn_112_111, rn_112_114, rn_112_115, rn_112_116, rn_112_117, rn_112_118, rn_112_119, rn_112_122, s_dup_i, s_dup_r, s_gf, am_gfq_e, am_nth_0, am_nth_s, fl_7_101, s_iconst_1, s_iadd, s_pf, am_pfq_e, am_fit_0, am_fit_1, am_fit_2, List.set_cons_zero, List.set_cons_succ, Nat.reduceLT, Bool.false_eq_true, Nat.lt_add_one, Nat.zero_lt_succ, fk_7_17, ff_7_17, in_112, s_aload_n_0, fl_7_52, s_iload_n_2, s_iload_n_1, s_bipush_9, s_ivv, am_ivq_e, am_cvq_e, am_po_s, am_po_n, am_sl_n, am_sl_i, am_sl_r, am_sl_l, ml_7_135, cq_108, s_iast, am_iwq_e, s_iald, am_iaq_e, s_bipush_m9, s_if2_ne, jm_105_5, s_iconst_0, s_irt, am_irq_1, am_irq_2, fl_7_55, Int.le_refl, am_c3, am_c4, am_c6, am_c7, am_c8, am_c9, am_c27, am_c60, am_c240, am_c418, am_c3500, am_up_s, am_up_n, am_uu, ne_eq, Nat.reduceAdd, Int.reduceAdd, Int.reduceNeg, Int.reduceLE, Int.reduceToNat, true_and, and_true, List.length_cons, List.length_nil, Nat.reduceLeDiff, Nat.zero_add, Nat.add_zero, Nat.le_refl, true_or, or_true, reduceCtorEq, false_implies, implies_true, true_implies, not_true_eq_false, not_false_eq_true, eq_self, Int.zero_add, Int.reduceEq, Nat.reduceEqDiff, ho2, c2, b2, wr_ok, Int.toNat_natCast, gd_ss, List.length_set]
      refine ⟨by omega, by omega, fun _ => ?_, fun w => by omega⟩
      have px2 : PX (am_up h2 73 (aC (B.set f pr))) (A.set f kv) (B.set f pr) C E G := ⟨by rw [am_up_n (by omega)]; exact c1, am_up_s, by rw [am_up_n (by omega)]; exact c3, by rw [am_up_n (by omega)]; exact c4, by rw [am_up_n (by omega)]; exact c5, by simpa using b1, by simpa using b2, b3, b4, b5⟩
      have fr2 : FrP h (am_up h2 73 (aC (B.set f pr))) := (frk.tr f2.P).up (by omega)
      have ho2' : am_up h2 73 (aC (B.set f pr)) 58 = mO ft tr fc tc ((fs + a : Nat) : Int) rf st an vs lp wa ws wt wv wl rc := by rw [am_up_n (by omega)]; exact ho2
      generalize am_up h2 73 (aC (B.set f pr)) = H2 at *
      have h612 : H2 61 = aC e := by rw [fr2 _ (by omega) (by omega)]; exact h61
      refine sp_digit ho2' h612 le hfs hc ha (by omega) (fun br b h3 eb f3 ho3 => ?_) (fun eb => ?_)
      · have hb := pd_in eb
        have hbl := pd_le eb ha
        obtain ⟨e1', e2', e3', e4', e5', _, _, _, _, _⟩ := px2.fr f3
        refine am_run 400 ?_; simp (disch := omega) only [ow_112, rt_112, rn_112_110, rn_112_111, rn_112_114, rn_112_115, rn_112_116, rn_112_117, rn_112_118, rn_112_119, rn_112_122, rn_112_123, rn_112_124, rn_112_127, rn_112_128, rn_112_129, rn_112_131, rn_112_134, rn_112_135, rn_112_136, rn_112_137, rn_112_139, rf_112_139, s_aload_n_0, s_gf, am_gfq_e, am_nth_0, am_nth_s, fl_7_55, s_iload_n_2, s_iload_n_1, s_iconst_0, s_iconst_1, s_ivv, am_ivq_e, am_cvq_e, am_po_s, am_po_n, am_sl_n, am_sl_i, am_sl_r, am_sl_l, ml_7_135, cq_108, s_iast, am_iwq_e, s_iald, am_iaq_e, s_bipush_m9, s_if2_ne, jm_131_5, s_irt, am_irq_1, am_irq_2, s_istore_4, am_kil_n, am_kil_i, am_kil_r, am_kil_l, s_iload_4, Int.le_refl, am_c3, am_c4, am_c6, am_c7, am_c8, am_c9, am_c27, am_c60, am_c240, am_c418, am_c3500, am_up_s, am_up_n, am_uu, ne_eq, Nat.reduceAdd, Int.reduceAdd, Int.reduceNeg, Int.reduceLE, Int.reduceToNat, true_and, and_true, List.length_cons, List.length_nil, Nat.reduceLeDiff, Nat.zero_add, Nat.add_zero, Nat.le_refl, true_or, or_true, reduceCtorEq, false_implies, implies_true, true_implies, not_true_eq_false, not_false_eq_true, eq_self, Int.zero_add, Int.reduceEq, Nat.reduceEqDiff, ho3, e3', b3, wr_ok, Int.toNat_natCast, gd_ss, List.length_set]
        refine ⟨by omega, by omega, fun _ => ?_, fun w => by omega⟩
        have px3 : PX (am_up h3 74 (aC (C.set f br))) (A.set f kv) (B.set f pr) (C.set f br) E G := ⟨by rw [am_up_n (by omega)]; exact e1', by rw [am_up_n (by omega)]; exact e2', am_up_s, by rw [am_up_n (by omega)]; exact e4', by rw [am_up_n (by omega)]; exact e5', by simpa using b1, by simpa using b2, by simpa using b3, b4, b5⟩
        have fr3 : FrP h (am_up h3 74 (aC (C.set f br))) := (fr2.tr f3.P).up (by omega)
        have ho3' : am_up h3 74 (aC (C.set f br)) 58 = mO ft tr fc tc ((fs + b : Nat) : Int) rf st an vs lp wa ws wt wv wl rc := by rw [am_up_n (by omega)]; exact ho3
        have h613 : am_up h3 74 (aC (C.set f br)) 61 = aC e := by rw [fr3 _ (by omega) (by omega)]; exact h61
        refine lp_mtwigs (h := am_up h3 74 (aC (C.set f br))) (y0 := b) (E := E) (G := G) hf h613 le hfs hc (fun l a9 E' G' h4 e9 ha9 f9 ho9 px9 ts => ?_) (fun a9 E' G' h4 e9 f9 ho9 px9 => ?_) 3 0 E G [] b _ (by omega) hbl rfl FrP.rf ho3' px3 ⟨fun v hv => by omega, fun _ _ => rfl, fun _ _ => rfl⟩ (fun l2 a e => by rw [e]; cases l2 <;> rfl)
        · refine k1 (kv, pr, br, l) a9 _ _ _ E' G' h4 ?_ ha9 (fr3.tr f9) ho9 px9 ⟨⟨gd_ss (by omega), gd_ss (by omega), gd_ss (by omega)⟩, fun j hj => ⟨gd_sn (fun w => hj w.symm), gd_sn (fun w => hj w.symm), gd_sn (fun w => hj w.symm)⟩, ts⟩
          unfold pfn
          rw [ek]
          dsimp only
          rw [ep]
          dsimp only
          rw [eb]
          dsimp only
          rw [e9]
        · refine k0 a9 _ _ _ E' G' h4 ?_ (fr3.tr f9) ho9 px9
          unfold pfn
          rw [ek]
          dsimp only
          rw [ep]
          dsimp only
          rw [eb]
          dsimp only
          rw [e9]
      · obtain ⟨e1', e2', e3', e4', e5', _, _, _, _, _⟩ := id px2
        refine am_run 400 ?_; simp (disch := omega) only [ow_112, rt_112, rn_112_110, rn_112_111, rn_112_114, rn_112_115, rn_112_116, rn_112_117, rn_112_118, rn_112_119, rn_112_122, rn_112_123, rn_112_124, rn_112_127, rn_112_128, rn_112_129, rn_112_131, rn_112_134, rn_112_135, rn_112_136, rn_112_137, rn_112_139, rf_112_139, s_aload_n_0, s_gf, am_gfq_e, am_nth_0, am_nth_s, fl_7_55, s_iload_n_2, s_iload_n_1, s_iconst_0, s_iconst_1, s_ivv, am_ivq_e, am_cvq_e, am_po_s, am_po_n, am_sl_n, am_sl_i, am_sl_r, am_sl_l, ml_7_135, cq_108, s_iast, am_iwq_e, s_iald, am_iaq_e, s_bipush_m9, s_if2_ne, jm_131_5, s_irt, am_irq_1, am_irq_2, s_istore_4, am_kil_n, am_kil_i, am_kil_r, am_kil_l, s_iload_4, Int.le_refl, am_c3, am_c4, am_c6, am_c7, am_c8, am_c9, am_c27, am_c60, am_c240, am_c418, am_c3500, am_up_s, am_up_n, am_uu, ne_eq, Nat.reduceAdd, Int.reduceAdd, Int.reduceNeg, Int.reduceLE, Int.reduceToNat, true_and, and_true, List.length_cons, List.length_nil, Nat.reduceLeDiff, Nat.zero_add, Nat.add_zero, Nat.le_refl, true_or, or_true, reduceCtorEq, false_implies, implies_true, true_implies, not_true_eq_false, not_false_eq_true, eq_self, Int.zero_add, Int.reduceEq, Nat.reduceEqDiff, ho2', e3', b3, wr_ok, Int.toNat_natCast, gd_ss, List.length_set]
        refine ⟨by omega, by omega, ?_⟩
        refine k0 a _ _ _ _ _ _ ?_ (fr2.up (by omega)) (by rw [am_up_n (by omega)]; exact ho2') ⟨by rw [am_up_n (by omega)]; exact e1', by rw [am_up_n (by omega)]; exact e2', am_up_s, by rw [am_up_n (by omega)]; exact e4', by rw [am_up_n (by omega)]; exact e5', by simpa using b1, by simpa using b2, by simpa using b3, b4, b5⟩
        unfold pfn
        rw [ek]
        dsimp only
        rw [ep]
        dsimp only
        rw [eb]
    · obtain ⟨c1, c2, c3, c4, c5, _, _, _, _, _⟩ := id pxk
      refine am_run 400 ?_; simp (disch := omega) only [ow_112, rt_112, rn_112_74, rn_112_75, rn_112_78, rn_112_79, rn_112_80, rn_112_83, rn_112_84, rn_112_87, rn_112_88, rn_112_89, rn_112_90, rn_112_91, rn_112_93, rn_112_96, rn_112_97, rn_112_98, rn_112_101, rn_112_102, rn_112_103, rn_112_105, rn_112_108, rn_112_109, rn_112_110, rn_112_111, rn_112_114, rn_112_115, rn_112_116, rn_112_117, rn_112_118, rn_112_119, rn_112_122, s_dup_i, s_dup_r, s_gf, am_gfq_e, am_nth_0, am_nth_s, fl_7_101, s_iconst_1, s_iadd, s_pf, am_pfq_e, am_fit_0, am_fit_1, am_fit_2, List.set_cons_zero, List.set_cons_succ, Nat.reduceLT, Bool.false_eq_true, Nat.lt_add_one, Nat.zero_lt_succ, fk_7_17, ff_7_17, in_112, s_aload_n_0, fl_7_52, s_iload_n_2, s_iload_n_1, s_bipush_9, s_ivv, am_ivq_e, am_cvq_e, am_po_s, am_po_n, am_sl_n, am_sl_i, am_sl_r, am_sl_l, ml_7_135, cq_108, s_iast, am_iwq_e, s_iald, am_iaq_e, s_bipush_m9, s_if2_ne, jm_105_5, s_iconst_0, s_irt, am_irq_1, am_irq_2, fl_7_55, Int.le_refl, am_c3, am_c4, am_c6, am_c7, am_c8, am_c9, am_c27, am_c60, am_c240, am_c418, am_c3500, am_up_s, am_up_n, am_uu, ne_eq, Nat.reduceAdd, Int.reduceAdd, Int.reduceNeg, Int.reduceLE, Int.reduceToNat, true_and, and_true, List.length_cons, List.length_nil, Nat.reduceLeDiff, Nat.zero_add, Nat.add_zero, Nat.le_refl, true_or, or_true, reduceCtorEq, false_implies, implies_true, true_implies, not_true_eq_false, not_false_eq_true, eq_self, Int.zero_add, Int.reduceEq, Nat.reduceEqDiff, hok, c2, b2, wr_ok, Int.toNat_natCast, gd_ss, List.length_set]
      refine ⟨by omega, by omega, ?_⟩
      refine k0 (x + 1) _ _ _ _ _ _ ?_ (frk.up (by omega)) (by rw [am_up_n (by omega)]; exact hok) ⟨by rw [am_up_n (by omega)]; exact c1, am_up_s, by rw [am_up_n (by omega)]; exact c3, by rw [am_up_n (by omega)]; exact c4, by rw [am_up_n (by omega)]; exact c5, by simpa using b1, by simpa using b2, b3, b4, b5⟩
      unfold pfn
      rw [ek]
      dsimp only
      rw [ep]
  refine en_112 (am_run 400 ?_); simp (disch := omega) only [ow_112, rt_112, rn_112_0, rn_112_1, rn_112_4, rn_112_5, rn_112_8, rn_112_9, rn_112_12, rn_112_13, rn_112_16, rn_112_17, rn_112_20, rn_112_21, rn_112_22, rn_112_23, rn_112_26, rn_112_27, rn_112_28, rn_112_30, rn_112_33, rn_112_34, rn_112_37, rn_112_38, rn_112_40, rn_112_43, rn_112_44, rn_112_47, rn_112_48, rn_112_50, rn_112_53, rn_112_54, rn_112_57, rn_112_59, rn_112_60, rn_112_61, rn_112_64, rn_112_65, rn_112_66, rn_112_68, rn_112_71, rn_112_72, rn_112_73, rn_112_74, rn_112_75, rn_112_78, rn_112_79, rn_112_80, rn_112_83, rn_112_84, rn_112_87, rn_112_88, rn_112_89, rn_112_90, rn_112_91, rn_112_93, rn_112_96, s_aload_n_0, s_gf, am_gfq_e, am_nth_0, am_nth_s, fl_7_101, s_iload_n_1, s_if2_ge, jm_5_15, fl_7_16, s_iald, am_iaq_e, s_goto, jm_17_4, s_iconst_0, s_istore_n_3, am_kil_n, am_kil_i, am_kil_r, am_kil_l, fl_7_49, s_iload_n_2, s_iload_n_3, s_bipush_112, s_if2_ne, jm_30_7, jm_34_25, s_bipush_100, jm_40_7, s_iconst_1, jm_44_15, s_bipush_119, jm_50_7, s_iconst_2, jm_54_5, s_bipush_m9, s_iast, am_iwq_e, jm_68_5, s_irt, am_irq_1, am_irq_2, s_dup_i, s_dup_r, s_iadd, s_pf, am_pfq_e, am_fit_0, am_fit_1, am_fit_2, List.set_cons_zero, List.set_cons_succ, Nat.reduceLT, Bool.false_eq_true, Nat.lt_add_one, Nat.zero_lt_succ, fk_7_17, ff_7_17, in_112, fl_7_52, s_bipush_9, s_ivv, am_ivq_e, am_cvq_e, am_po_s, am_po_n, am_sl_n, am_sl_i, am_sl_r, am_sl_l, ml_7_135, cq_108, Int.le_refl, am_c3, am_c4, am_c6, am_c7, am_c8, am_c9, am_c27, am_c60, am_c240, am_c418, am_c3500, am_up_s, am_up_n, am_uu, ne_eq, Nat.reduceAdd, Int.reduceAdd, Int.reduceNeg, Int.reduceLE, Int.reduceToNat, true_and, and_true, List.length_cons, List.length_nil, Nat.reduceLeDiff, Nat.zero_add, Nat.add_zero, Nat.le_refl, true_or, or_true, reduceCtorEq, false_implies, implies_true, true_implies, not_true_eq_false, not_false_eq_true, eq_self, Int.zero_add, Int.reduceEq, Nat.reduceEqDiff, ho, h61, le, a1, b1, wr_ok, Int.toNat_natCast, gd_ss, List.length_set, e1]
  refine ⟨fun z => ⟨by omega, by omega, bad ?_⟩, fun z => ⟨by omega, ?_⟩⟩
  · unfold pkd
    rw [if_neg (by omega), if_neg (by omega), if_neg (by omega)]
  · have ec := hc x (by omega)
    rw [ec]
    refine ⟨fun z1 => ⟨fun z2 => ⟨fun z3 => ⟨by omega, by omega, bad ?_⟩, fun z3 => ⟨by omega, by omega, rest 2 _ ?_⟩⟩, fun z2 => ⟨by omega, by omega, rest 1 _ ?_⟩⟩, fun z1 => ⟨by omega, by omega, rest 0 _ ?_⟩⟩
    · unfold pkd
      rw [if_neg (by omega), if_neg (by omega), if_neg (by omega)]
    · unfold pkd
      rw [if_neg (by omega), if_neg (by omega), if_pos (by omega)]
    · unfold pkd
      rw [if_neg (by omega), if_pos (by omega)]
    · unfold pkd
      rw [if_pos (by omega)]
end
