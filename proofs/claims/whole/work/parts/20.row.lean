/-! ROWS: what terms come to in a stand -/
/-- a term, by those ahead of it: what it comes to (0 .. 2 a value, 3 fails, 4 + x needs x bound, 8 + t needs t picked), what is looked at -/
def ev1 (fns : List FnT) (bd : Int → Int) (pk : Nat → Int) (acc : List (Int × Int)) (x : TmT) : Int × Int :=
  if x.1 = 0 then (x.2.1, am_shl 1 acc.length)
  else if x.1 = 1 then (if bd x.2.1 = 3 then 4 + x.2.1 else bd x.2.1, am_shl 1 acc.length)
  else
    let F := fns.getD x.2.1.toNat fn0
    let A := acc.getD (if F.2.2.1 = 0 then x.2.2.1 else x.2.2.2).toNat (3, 0)
    let B := acc.getD (if F.2.2.1 = 0 then x.2.2.2 else x.2.2.1).toNat (3, 0)
    let L := am_or (am_shl 1 acc.length) A.2
    let tw := F.2.2.2.1.getD A.1.toNat 0
    if 3 ≤ A.1 then (A.1, L)
    else if tw < 3 then (tw, L)
    else if tw = 4 then (3, L)
    else if 5 ≤ tw ∧ tw < 14 then (if pk acc.length = 0 then 8 + acc.length else if pk acc.length = 2 then (tw - 5) % 3 else (tw - 5) / 3, L)
    else (if tw = 3 ∨ 3 ≤ B.1 then B.1 else F.2.2.2.2.getD (3 * A.1 + B.1).toNat 0, am_or L B.2)
def evp (fns : List FnT) (tms : List TmT) (bd : Int → Int) (pk : Nat → Int) : Nat → List (Int × Int)
  | 0 => []
  | i + 1 => evp fns tms bd pk i ++ [ev1 fns bd pk (evp fns tms bd pk i) (tms.getD i tm0)]
theorem evp_len {fns : List FnT} {tms : List TmT} {bd : Int → Int} {pk : Nat → Int} : ∀ i, (evp fns tms bd pk i).length = i
  | 0 => rfl
  | i + 1 => by simp [evp, evp_len i]
/-- what term t comes to -/
def evt (fns : List FnT) (tms : List TmT) (bd : Int → Int) (pk : Nat → Int) (t : Nat) : Int × Int := ev1 fns bd pk (evp fns tms bd pk t) (tms.getD t tm0)
theorem evp_get {fns : List FnT} {tms : List TmT} {bd : Int → Int} {pk : Nat → Int} {e : Int × Int} : ∀ (i j : Nat), j < i → (evp fns tms bd pk i).getD j e = evt fns tms bd pk j
  | 0, _, h => by omega
  | i + 1, j, h => by
    unfold evp
    by_cases hj : j = i
    · subst hj
      rw [gd_ar (evp_len j).symm]
      rfl
    · rw [gd_al (by rw [evp_len]; omega)]
      exact evp_get i j (by omega)
theorem am_and3 (x : Int) : 0 ≤ am_and x 3 ∧ am_and x 3 ≤ 3 := by
  unfold am_and
  obtain ⟨j, hj, e⟩ := pk_andE (Int32.ofInt x) (m := Int32.ofInt 3) 2 (by decide)
  rw [e, nI_toInt (by omega)]
  omega
theorem ev1_rng {fns : List FnT} {tms : List TmT} {bd : Int → Int} {pk : Nat → Int} {acc : List (Int × Int)} {x : TmT} (hwf : WF fns tms) (hb : ∀ x, 0 ≤ x ∧ x ≤ 2 → 0 ≤ bd x ∧ bd x ≤ 3) (hx : WTm fns.length acc.length x) (hl : acc.length < 6) (ha : ∀ j, j < acc.length → 0 ≤ (acc.getD j (3, 0)).1 ∧ (acc.getD j (3, 0)).1 ≤ 13) : 0 ≤ (ev1 fns bd pk acc x).1 ∧ (ev1 fns bd pk acc x).1 ≤ 13 := by
  unfold ev1
  rcases hx with ⟨e, h1, h2⟩ | ⟨e, h1, h2⟩ | ⟨e, ⟨h1, h2⟩, ⟨h3, h4⟩, h5, h6⟩
  · rw [if_pos e]; dsimp only; omega
  · rw [if_neg (by omega), if_pos e]
    have := hb _ ⟨h1, h2⟩
    dsimp only
    split <;> omega
  · rw [if_neg (by omega), if_neg (by omega)]
    dsimp only
    have hF := hwf.1 _ _ (gd_get fn0 (i := x.2.1.toNat) (by omega))
    generalize fns.getD x.2.1.toNat fn0 = F at *
    have hA := ha (if F.2.2.1 = 0 then x.2.2.1 else x.2.2.2).toNat (by split <;> omega)
    have hB := ha (if F.2.2.1 = 0 then x.2.2.2 else x.2.2.1).toNat (by split <;> omega)
    generalize acc.getD (if F.2.2.1 = 0 then x.2.2.1 else x.2.2.2).toNat (3, 0) = A at *
    generalize acc.getD (if F.2.2.1 = 0 then x.2.2.2 else x.2.2.1).toNat (3, 0) = B at *
    split
    · exact hA
    · next q =>
      have ht := hF.2.2.2.2.2 A.1.toNat (by omega)
      split
      · dsimp only; omega
      · split
        · dsimp only; omega
        · split
          · dsimp only
            split
            · omega
            · split <;> omega
          · dsimp only
            split
            · exact hB
            · next q1 q2 q3 q4 =>
              have := ht.2 (by omega) B.1.toNat (by omega)
              rw [show (3 * A.1 + B.1).toNat = 3 * A.1.toNat + B.1.toNat by omega]
              omega
theorem evt_rng {fns : List FnT} {tms : List TmT} {bd : Int → Int} {pk : Nat → Int} (hwf : WF fns tms) (hl : tms.length ≤ 6) (hb : ∀ x, 0 ≤ x ∧ x ≤ 2 → 0 ≤ bd x ∧ bd x ≤ 3) : ∀ t, t < tms.length → 0 ≤ (evt fns tms bd pk t).1 ∧ (evt fns tms bd pk t).1 ≤ 13 := by
  intro t
  induction t using Nat.strongRecOn with
  | _ t ih =>
    intro ht
    unfold evt
    refine ev1_rng hwf hb ?_ (by rw [evp_len]; omega) (fun j hj => ?_)
    · rw [evp_len]
      exact hwf.2 t _ (gd_get tm0 ht)
    · rw [evp_len] at hj
      rw [evp_get t j hj]
      exact ih j hj (by omega)
/-- the class's stands -/
def cbd (s : Int) : Int → Int := fun x => st_bound s x
def cpk (s : Int) : Nat → Int := fun t => if am_and (am_shr (st_picked s) t) 1 = 0 then 0 else if am_and (am_shr (st_second s) t) 1 = 0 then 1 else 2
/-- the cells r .. r + 5 -/
def RS (h : am_H) (r : Nat) (cnt : Int) (sd ou lk to tl : List Int) : Prop := h r = oC 1 [iV cnt, rV (r + 1), rV (r + 2), rV (r + 3), rV (r + 4), rV (r + 5)] ∧ h (r + 1) = aC sd ∧ h (r + 2) = aC ou ∧ h (r + 3) = aC lk ∧ h (r + 4) = aC to ∧ h (r + 5) = aC tl ∧ sd.length = 418 ∧ ou.length = 418 ∧ lk.length = 418 ∧ to.length = 6 ∧ tl.length = 6
section
variable {d n : Nat} {h : am_H} {K : am_K} {r w : Nat} {fns : List FnT} {tms : List TmT} {gs : List Int}
theorem sp_outcomeOfChoice {c s : Int} {t : Nat} (hc : 0 ≤ c ∧ c ≤ 8) (ht : t < 6) (k : K (some (iV (if cpk s t = 0 then 8 + (t : Int) else if cpk s t = 2 then c % 3 else c / 3))) n h) : am_M (d + 2) 9 [iV c, iV t, iV s] n h K := by
  have e1 : c.tmod 3 = c % 3 := Int.tmod_eq_emod_of_nonneg hc.1
  have e2 : c.tdiv 3 = c / 3 := Int.tdiv_eq_ediv_of_nonneg hc.1
  refine en_9 (am_run 400 ?_); simp (disch := omega) only [ow_9, rt_9, rn_9_0, rn_9_1, rn_9_4, rn_9_5, rn_9_6, rn_9_7, rn_9_8, rn_9_11, rn_9_13, rn_9_14, rn_9_15, rn_9_16, rn_9_17, rn_9_20, rn_9_21, rn_9_22, rn_9_23, rn_9_24, rn_9_27, rn_9_28, rn_9_31, rn_9_32, rn_9_33, rn_9_34, rn_9_37, rn_9_38, rn_9_39, rn_9_40, rn_9_43, rn_9_44, rn_9_45, rn_9_46, s_iload_n_2, s_ivs, am_isv_1, am_isv_3, am_isv_5, s_acp, am_cpq_e, am_po_s, am_po_n, am_sl_n, am_sl_i, am_sl_r, am_sl_l, ml_1_113, cq_25, s_iload_n_1, s_ishr, s_iconst_1, s_iand, s_if1_ne, jm_8_8, s_bipush_8, s_iadd, s_irt, am_irq_1, am_irq_2, ml_1_117, cq_26, s_if1_eq, jm_24_7, s_goto, jm_28_4, s_iconst_0, s_istore_n_3, am_kil_n, am_kil_i, am_kil_r, am_kil_l, s_iload_n_3, jm_34_9, s_iload_n_0, s_iconst_3, s_irem, jm_40_6, s_idiv, Int.le_refl, am_c3, am_c4, am_c6, am_c7, am_c8, am_c9, am_c27, am_c60, am_c240, am_c418, am_c3500, am_up_s, am_up_n, am_uu, ne_eq, Nat.reduceAdd, Int.reduceAdd, Int.reduceNeg, Int.reduceLE, Int.reduceToNat, true_and, and_true, List.length_cons, List.length_nil, Nat.reduceLeDiff, Nat.zero_add, Nat.add_zero, Nat.le_refl, true_or, or_true, reduceCtorEq, false_implies, implies_true, true_implies, not_true_eq_false, not_false_eq_true, eq_self, Int.zero_add, Int.reduceEq, Nat.reduceEqDiff]
  refine sp_picked ?_
  refine am_run 400 ?_; simp (disch := omega) only [ow_9, rt_9, rn_9_0, rn_9_1, rn_9_4, rn_9_5, rn_9_6, rn_9_7, rn_9_8, rn_9_11, rn_9_13, rn_9_14, rn_9_15, rn_9_16, rn_9_17, rn_9_20, rn_9_21, rn_9_22, rn_9_23, rn_9_24, rn_9_27, rn_9_28, rn_9_31, rn_9_32, rn_9_33, rn_9_34, rn_9_37, rn_9_38, rn_9_39, rn_9_40, rn_9_43, rn_9_44, rn_9_45, rn_9_46, s_iload_n_2, s_ivs, am_isv_1, am_isv_3, am_isv_5, s_acp, am_cpq_e, am_po_s, am_po_n, am_sl_n, am_sl_i, am_sl_r, am_sl_l, ml_1_113, cq_25, s_iload_n_1, s_ishr, s_iconst_1, s_iand, s_if1_ne, jm_8_8, s_bipush_8, s_iadd, s_irt, am_irq_1, am_irq_2, ml_1_117, cq_26, s_if1_eq, jm_24_7, s_goto, jm_28_4, s_iconst_0, s_istore_n_3, am_kil_n, am_kil_i, am_kil_r, am_kil_l, s_iload_n_3, jm_34_9, s_iload_n_0, s_iconst_3, s_irem, jm_40_6, s_idiv, Int.le_refl, am_c3, am_c4, am_c6, am_c7, am_c8, am_c9, am_c27, am_c60, am_c240, am_c418, am_c3500, am_up_s, am_up_n, am_uu, ne_eq, Nat.reduceAdd, Int.reduceAdd, Int.reduceNeg, Int.reduceLE, Int.reduceToNat, true_and, and_true, List.length_cons, List.length_nil, Nat.reduceLeDiff, Nat.zero_add, Nat.add_zero, Nat.le_refl, true_or, or_true, reduceCtorEq, false_implies, implies_true, true_implies, not_true_eq_false, not_false_eq_true, eq_self, Int.zero_add, Int.reduceEq, Nat.reduceEqDiff, wr_ok]
  unfold cpk at k
  refine ⟨fun q => ?_, fun q => ?_⟩
  · refine sp_second ?_
    rw [if_neg q] at k
    refine am_run 400 ?_; simp (disch := omega) only [ow_9, rt_9, rn_9_0, rn_9_1, rn_9_4, rn_9_5, rn_9_6, rn_9_7, rn_9_8, rn_9_11, rn_9_13, rn_9_14, rn_9_15, rn_9_16, rn_9_17, rn_9_20, rn_9_21, rn_9_22, rn_9_23, rn_9_24, rn_9_27, rn_9_28, rn_9_31, rn_9_32, rn_9_33, rn_9_34, rn_9_37, rn_9_38, rn_9_39, rn_9_40, rn_9_43, rn_9_44, rn_9_45, rn_9_46, s_iload_n_2, s_ivs, am_isv_1, am_isv_3, am_isv_5, s_acp, am_cpq_e, am_po_s, am_po_n, am_sl_n, am_sl_i, am_sl_r, am_sl_l, ml_1_113, cq_25, s_iload_n_1, s_ishr, s_iconst_1, s_iand, s_if1_ne, jm_8_8, s_bipush_8, s_iadd, s_irt, am_irq_1, am_irq_2, ml_1_117, cq_26, s_if1_eq, jm_24_7, s_goto, jm_28_4, s_iconst_0, s_istore_n_3, am_kil_n, am_kil_i, am_kil_r, am_kil_l, s_iload_n_3, jm_34_9, s_iload_n_0, s_iconst_3, s_irem, jm_40_6, s_idiv, Int.le_refl, am_c3, am_c4, am_c6, am_c7, am_c8, am_c9, am_c27, am_c60, am_c240, am_c418, am_c3500, am_up_s, am_up_n, am_uu, ne_eq, Nat.reduceAdd, Int.reduceAdd, Int.reduceNeg, Int.reduceLE, Int.reduceToNat, true_and, and_true, List.length_cons, List.length_nil, Nat.reduceLeDiff, Nat.zero_add, Nat.add_zero, Nat.le_refl, true_or, or_true, reduceCtorEq, false_implies, implies_true, true_implies, not_true_eq_false, not_false_eq_true, eq_self, Int.zero_add, Int.reduceEq, Nat.reduceEqDiff, wr_ok, e1, e2]
    refine ⟨fun q2 => ?_, fun q2 => ?_⟩
    · rw [if_pos q2] at k
      simpa using k
    · rw [if_neg q2] at k
      simpa using k
  · rw [if_pos q] at k
    simpa using k
set_option maxRecDepth 100000 in
theorem sp_outcomeOfFunction {sn cnt : Int} {t : Nat} {sd ou lk to tl : List Int} {F : Nat → FnT} {T : Nat → TmT} (o1 : w + 18 < r) (l1 : fns.length ≤ 3) (l2 : tms.length ≤ 6) (ht : t < tms.length) (hS : WS h w fns.length tms.length F T gs) (hF : ∀ f, f < fns.length → fns[f]? = some (F f)) (hT : ∀ t, t < tms.length → tms[t]? = some (T t)) (hwf : WF fns tms) (hR : RS h r cnt sd ou lk to tl) (h2 : (T t).1 = 2) (htl : tl.getD t 0 = am_shl 1 t)
    (ht1 : ∀ j, j < t → to.getD j 0 = (evt fns tms (cbd sn) (cpk sn) j).1 ∧ tl.getD j 0 = (evt fns tms (cbd sn) (cpk sn) j).2)
    (k : K (some (iV (evt fns tms (cbd sn) (cpk sn) t).1)) n (am_up h (r + 5) (aC (tl.set t (evt fns tms (cbd sn) (cpk sn) t).2)))) : am_M (d + 3) 8 [rV r, rV w, iV t, iV sn] n h K := by
  have hti := hS.2.2.2.2.2.2 t (by omega)
  have eT : tms.getD t tm0 = T t := gd_some (hT t ht)
  have hw := hwf.2 t _ (hT t ht)
  obtain ⟨r1, r2, r3, r4, r5, r6, r7, r8, r9, r10, r11⟩ := id hR
  rcases hw with hw | hw | ⟨-, ⟨m1, m2⟩, ⟨m3, m4⟩, ⟨m5, m6⟩⟩
  · omega
  · omega
  refine en_8 (am_run 400 ?_); simp (disch := omega) only [ow_8, rt_8, rn_8_0, rn_8_1, rn_8_4, rn_8_5, rn_8_6, rn_8_8, rn_8_9, rn_8_11, rn_8_14, rn_8_17, rn_8_19, rn_8_21, rn_8_24, rn_8_26, rn_8_29, rn_8_30, rn_8_33, rn_8_36, rn_8_38, rn_8_41, rn_8_42, rn_8_45, rn_8_48, rn_8_49, rn_8_50, rn_8_52, rn_8_55, rn_8_58, rn_8_60, rn_8_63, rn_8_66, rn_8_68, rn_8_71, rn_8_73, rn_8_75, rn_8_78, rn_8_81, rn_8_83, rn_8_86, rn_8_89, rn_8_91, rn_8_94, rn_8_96, rn_8_97, rn_8_100, rn_8_101, rn_8_102, rn_8_103, rn_8_104, rn_8_107, rn_8_109, rn_8_110, rn_8_111, rn_8_112, rn_8_113, rn_8_116, rn_8_118, rn_8_119, rn_8_121, rn_8_123, rn_8_124, rn_8_127, rn_8_129, rn_8_130, rn_8_132, rn_8_135, rn_8_137, rn_8_138, rn_8_140, rn_8_142, rn_8_143, rn_8_146, rn_8_148, rn_8_149, rn_8_151, rn_8_152, rn_8_155, rn_8_156, rn_8_157, rn_8_159, rn_8_160, rn_8_163, rn_8_165, rn_8_167, rn_8_170, rn_8_172, rn_8_173, rn_8_174, rn_8_175, rn_8_176, rn_8_179, rn_8_180, rn_8_181, rn_8_184, rn_8_185, rn_8_186, rn_8_187, rn_8_188, rn_8_191, rn_8_193, rn_8_194, rn_8_195, rn_8_196, rn_8_197, rn_8_200, rn_8_202, rn_8_203, rn_8_205, rn_8_207, rn_8_208, rn_8_211, rn_8_213, rn_8_214, rn_8_217, rn_8_219, rn_8_220, rn_8_222, rn_8_225, rn_8_226, rn_8_228, rn_8_229, rn_8_231, rn_8_232, rn_8_233, s_aload_n_1, s_gf, am_gfq_e, am_nth_0, am_nth_s, fl_1_65, s_iload_n_2, s_aald, am_aaq_e, s_astore_4, am_kil_n, am_kil_i, am_kil_r, am_kil_l, s_aload_4, fl_1_74, s_ivv, am_ivq_e, am_cvq_e, am_po_s, am_po_n, am_sl_n, am_sl_i, am_sl_r, am_sl_l, ml_1_85, cq_43, s_astore_5, s_aload_5, s_ifn_n, s_ifn_s, jm_21_27, fl_1_89, s_ivs, am_isv_1, am_isv_3, am_isv_5, s_acp, am_cpq_e, ml_1_92, cq_82, s_if1_eq, jm_33_15, fl_1_96, s_if1_ne, jm_45_5, s_iconst_3, s_irt, am_irq_1, am_irq_2, fl_1_99, jm_55_11, s_goto, jm_63_8, s_istore_6, jm_78_11, jm_86_8, s_istore_7, s_aload_n_0, fl_1_24, s_dup2, s_iald, am_iaq_e, s_iload_6, s_ior, s_iast, am_iwq_e, fl_1_21, s_istore_8, s_iload_8, s_if2_lt, jm_124_6, fl_1_104, s_istore_9, s_iload_9, s_if2_ge, jm_143_6, s_iconst_4, s_if2_ne, jm_152_5, s_iconst_5, jm_160_20, s_bipush_14, jm_167_13, s_isub, s_iload_n_3, ml_1_107, cq_9, s_iload_7, s_istore_10, s_if2_eq, jm_208_9, s_iload_10, jm_214_6, fl_1_110, s_imul, s_iadd, Int.le_refl, am_c3, am_c4, am_c6, am_c7, am_c8, am_c9, am_c27, am_c60, am_c240, am_c418, am_c3500, am_up_s, am_up_n, am_uu, ne_eq, Nat.reduceAdd, Int.reduceAdd, Int.reduceNeg, Int.reduceLE, Int.reduceToNat, true_and, and_true, List.length_cons, List.length_nil, Nat.reduceLeDiff, Nat.zero_add, Nat.add_zero, Nat.le_refl, true_or, or_true, reduceCtorEq, false_implies, implies_true, true_implies, not_true_eq_false, not_false_eq_true, eq_self, Int.zero_add, Int.reduceEq, Nat.reduceEqDiff, hS.1, hS.2.2.1, hti, tqd, Int.toNat_natCast]
  refine ⟨⟨by omega, by omega⟩, ?_⟩
  refine sp_functionAt hS (by omega) (fun q => ?_) (fun q => by omega)
  have hf := hS.2.2.2.2.2.1 (T t).2.1.toNat (by omega)
  have eF : fns.getD (T t).2.1.toNat fn0 = F (T t).2.1.toNat := gd_some (hF _ (by omega))
  refine am_run 400 ?_; simp (disch := omega) only [ow_8, rt_8, rn_8_0, rn_8_1, rn_8_4, rn_8_5, rn_8_6, rn_8_8, rn_8_9, rn_8_11, rn_8_14, rn_8_17, rn_8_19, rn_8_21, rn_8_24, rn_8_26, rn_8_29, rn_8_30, rn_8_33, rn_8_36, rn_8_38, rn_8_41, rn_8_42, rn_8_45, rn_8_48, rn_8_49, rn_8_50, rn_8_52, rn_8_55, rn_8_58, rn_8_60, rn_8_63, rn_8_66, rn_8_68, rn_8_71, rn_8_73, rn_8_75, rn_8_78, rn_8_81, rn_8_83, rn_8_86, rn_8_89, rn_8_91, rn_8_94, rn_8_96, rn_8_97, rn_8_100, rn_8_101, rn_8_102, rn_8_103, rn_8_104, rn_8_107, rn_8_109, rn_8_110, rn_8_111, rn_8_112, rn_8_113, rn_8_116, rn_8_118, rn_8_119, rn_8_121, rn_8_123, rn_8_124, rn_8_127, rn_8_129, rn_8_130, rn_8_132, rn_8_135, rn_8_137, rn_8_138, rn_8_140, rn_8_142, rn_8_143, rn_8_146, rn_8_148, rn_8_149, rn_8_151, rn_8_152, rn_8_155, rn_8_156, rn_8_157, rn_8_159, rn_8_160, rn_8_163, rn_8_165, rn_8_167, rn_8_170, rn_8_172, rn_8_173, rn_8_174, rn_8_175, rn_8_176, rn_8_179, rn_8_180, rn_8_181, rn_8_184, rn_8_185, rn_8_186, rn_8_187, rn_8_188, rn_8_191, rn_8_193, rn_8_194, rn_8_195, rn_8_196, rn_8_197, rn_8_200, rn_8_202, rn_8_203, rn_8_205, rn_8_207, rn_8_208, rn_8_211, rn_8_213, rn_8_214, rn_8_217, rn_8_219, rn_8_220, rn_8_222, rn_8_225, rn_8_226, rn_8_228, rn_8_229, rn_8_231, rn_8_232, rn_8_233, s_aload_n_1, s_gf, am_gfq_e, am_nth_0, am_nth_s, fl_1_65, s_iload_n_2, s_aald, am_aaq_e, s_astore_4, am_kil_n, am_kil_i, am_kil_r, am_kil_l, s_aload_4, fl_1_74, s_ivv, am_ivq_e, am_cvq_e, am_po_s, am_po_n, am_sl_n, am_sl_i, am_sl_r, am_sl_l, ml_1_85, cq_43, s_astore_5, s_aload_5, s_ifn_n, s_ifn_s, jm_21_27, fl_1_89, s_ivs, am_isv_1, am_isv_3, am_isv_5, s_acp, am_cpq_e, ml_1_92, cq_82, s_if1_eq, jm_33_15, fl_1_96, s_if1_ne, jm_45_5, s_iconst_3, s_irt, am_irq_1, am_irq_2, fl_1_99, jm_55_11, s_goto, jm_63_8, s_istore_6, jm_78_11, jm_86_8, s_istore_7, s_aload_n_0, fl_1_24, s_dup2, s_iald, am_iaq_e, s_iload_6, s_ior, s_iast, am_iwq_e, fl_1_21, s_istore_8, s_iload_8, s_if2_lt, jm_124_6, fl_1_104, s_istore_9, s_iload_9, s_if2_ge, jm_143_6, s_iconst_4, s_if2_ne, jm_152_5, s_iconst_5, jm_160_20, s_bipush_14, jm_167_13, s_isub, s_iload_n_3, ml_1_107, cq_9, s_iload_7, s_istore_10, s_if2_eq, jm_208_9, s_iload_10, jm_214_6, fl_1_110, s_imul, s_iadd, Int.le_refl, am_c3, am_c4, am_c6, am_c7, am_c8, am_c9, am_c27, am_c60, am_c240, am_c418, am_c3500, am_up_s, am_up_n, am_uu, ne_eq, Nat.reduceAdd, Int.reduceAdd, Int.reduceNeg, Int.reduceLE, Int.reduceToNat, true_and, and_true, List.length_cons, List.length_nil, Nat.reduceLeDiff, Nat.zero_add, Nat.add_zero, Nat.le_refl, true_or, or_true, reduceCtorEq, false_implies, implies_true, true_implies, not_true_eq_false, not_false_eq_true, eq_self, Int.zero_add, Int.reduceEq, Nat.reduceEqDiff, hti]
  refine sp_isBelow (fun _ => ?_) (fun q1 => by omega)
  refine am_run 400 ?_; simp (disch := omega) only [ow_8, rt_8, rn_8_0, rn_8_1, rn_8_4, rn_8_5, rn_8_6, rn_8_8, rn_8_9, rn_8_11, rn_8_14, rn_8_17, rn_8_19, rn_8_21, rn_8_24, rn_8_26, rn_8_29, rn_8_30, rn_8_33, rn_8_36, rn_8_38, rn_8_41, rn_8_42, rn_8_45, rn_8_48, rn_8_49, rn_8_50, rn_8_52, rn_8_55, rn_8_58, rn_8_60, rn_8_63, rn_8_66, rn_8_68, rn_8_71, rn_8_73, rn_8_75, rn_8_78, rn_8_81, rn_8_83, rn_8_86, rn_8_89, rn_8_91, rn_8_94, rn_8_96, rn_8_97, rn_8_100, rn_8_101, rn_8_102, rn_8_103, rn_8_104, rn_8_107, rn_8_109, rn_8_110, rn_8_111, rn_8_112, rn_8_113, rn_8_116, rn_8_118, rn_8_119, rn_8_121, rn_8_123, rn_8_124, rn_8_127, rn_8_129, rn_8_130, rn_8_132, rn_8_135, rn_8_137, rn_8_138, rn_8_140, rn_8_142, rn_8_143, rn_8_146, rn_8_148, rn_8_149, rn_8_151, rn_8_152, rn_8_155, rn_8_156, rn_8_157, rn_8_159, rn_8_160, rn_8_163, rn_8_165, rn_8_167, rn_8_170, rn_8_172, rn_8_173, rn_8_174, rn_8_175, rn_8_176, rn_8_179, rn_8_180, rn_8_181, rn_8_184, rn_8_185, rn_8_186, rn_8_187, rn_8_188, rn_8_191, rn_8_193, rn_8_194, rn_8_195, rn_8_196, rn_8_197, rn_8_200, rn_8_202, rn_8_203, rn_8_205, rn_8_207, rn_8_208, rn_8_211, rn_8_213, rn_8_214, rn_8_217, rn_8_219, rn_8_220, rn_8_222, rn_8_225, rn_8_226, rn_8_228, rn_8_229, rn_8_231, rn_8_232, rn_8_233, s_aload_n_1, s_gf, am_gfq_e, am_nth_0, am_nth_s, fl_1_65, s_iload_n_2, s_aald, am_aaq_e, s_astore_4, am_kil_n, am_kil_i, am_kil_r, am_kil_l, s_aload_4, fl_1_74, s_ivv, am_ivq_e, am_cvq_e, am_po_s, am_po_n, am_sl_n, am_sl_i, am_sl_r, am_sl_l, ml_1_85, cq_43, s_astore_5, s_aload_5, s_ifn_n, s_ifn_s, jm_21_27, fl_1_89, s_ivs, am_isv_1, am_isv_3, am_isv_5, s_acp, am_cpq_e, ml_1_92, cq_82, s_if1_eq, jm_33_15, fl_1_96, s_if1_ne, jm_45_5, s_iconst_3, s_irt, am_irq_1, am_irq_2, fl_1_99, jm_55_11, s_goto, jm_63_8, s_istore_6, jm_78_11, jm_86_8, s_istore_7, s_aload_n_0, fl_1_24, s_dup2, s_iald, am_iaq_e, s_iload_6, s_ior, s_iast, am_iwq_e, fl_1_21, s_istore_8, s_iload_8, s_if2_lt, jm_124_6, fl_1_104, s_istore_9, s_iload_9, s_if2_ge, jm_143_6, s_iconst_4, s_if2_ne, jm_152_5, s_iconst_5, jm_160_20, s_bipush_14, jm_167_13, s_isub, s_iload_n_3, ml_1_107, cq_9, s_iload_7, s_istore_10, s_if2_eq, jm_208_9, s_iload_10, jm_214_6, fl_1_110, s_imul, s_iadd, Int.le_refl, am_c3, am_c4, am_c6, am_c7, am_c8, am_c9, am_c27, am_c60, am_c240, am_c418, am_c3500, am_up_s, am_up_n, am_uu, ne_eq, Nat.reduceAdd, Int.reduceAdd, Int.reduceNeg, Int.reduceLE, Int.reduceToNat, true_and, and_true, List.length_cons, List.length_nil, Nat.reduceLeDiff, Nat.zero_add, Nat.add_zero, Nat.le_refl, true_or, or_true, reduceCtorEq, false_implies, implies_true, true_implies, not_true_eq_false, not_false_eq_true, eq_self, Int.zero_add, Int.reduceEq, Nat.reduceEqDiff, hti]
  refine sp_isBelow (fun _ => ?_) (fun q1 => by omega)
  obtain ⟨f1, f2, f3, f4, f5⟩ := hf
  have hwn := hwf.1 _ _ (hF (T t).2.1.toNat (by omega))
  generalize hG : F (T t).2.1.toNat = G at *
  have key : ∀ (k : Nat) (fi ot : Nat), fi < t → ot < t → (fi : Int) = (if G.2.2.1 = 0 then (T t).2.2.1 else (T t).2.2.2) → (ot : Int) = (if G.2.2.1 = 0 then (T t).2.2.2 else (T t).2.2.1) → am_rn 8 n (am_M (d + 2)) K (k + 90) 96 [some (rV r), some (rV w), some (iV t), some (iV sn), some (rV (w + 13 + t)), some (rV (w + 4 + 3 * (T t).2.1.toNat)), some (iV fi), some (iV ot), none, none, none] [] n h := by
    intro kk fi ot b1 b2 e1 e2
    obtain ⟨a1, a2⟩ := ht1 fi b1
    obtain ⟨c1, c2⟩ := ht1 ot b2
    have hev : evt fns tms (cbd sn) (cpk sn) t = ev1 fns (cbd sn) (cpk sn) (evp fns tms (cbd sn) (cpk sn) t) (T t) := by unfold evt; rw [eT]
    unfold ev1 at hev
    rw [if_neg (by omega), if_neg (by omega)] at hev
    dsimp only at hev
    rw [eF, ← e1, ← e2, Int.toNat_natCast, Int.toNat_natCast, evp_get t fi b1, evp_get t ot b2, evp_len, ← a1, ← a2, ← c1, ← c2] at hev
    simp (disch := omega) only [ow_8, rt_8, rn_8_96, rn_8_97, rn_8_100, rn_8_101, rn_8_102, rn_8_103, rn_8_104, rn_8_107, rn_8_109, rn_8_110, rn_8_111, rn_8_112, rn_8_113, rn_8_116, rn_8_118, rn_8_119, rn_8_121, rn_8_123, rn_8_124, rn_8_127, rn_8_129, rn_8_130, rn_8_132, rn_8_135, rn_8_137, rn_8_138, rn_8_140, rn_8_142, rn_8_143, rn_8_146, rn_8_148, rn_8_149, rn_8_151, rn_8_152, rn_8_155, rn_8_156, rn_8_157, rn_8_159, rn_8_160, rn_8_163, rn_8_165, rn_8_167, rn_8_170, rn_8_172, rn_8_173, rn_8_174, rn_8_175, rn_8_176, rn_8_179, rn_8_180, rn_8_181, rn_8_184, rn_8_185, rn_8_186, rn_8_187, rn_8_188, rn_8_191, rn_8_193, rn_8_194, rn_8_195, rn_8_196, rn_8_197, rn_8_200, rn_8_202, rn_8_203, rn_8_205, rn_8_207, rn_8_208, rn_8_211, rn_8_213, rn_8_214, rn_8_217, rn_8_219, rn_8_220, rn_8_222, rn_8_225, rn_8_226, rn_8_228, rn_8_229, rn_8_231, rn_8_232, rn_8_233, s_aload_n_0, s_gf, am_gfq_e, am_nth_0, am_nth_s, fl_1_24, s_iload_n_2, s_dup2, s_iald, am_iaq_e, s_iload_6, s_ior, s_iast, am_iwq_e, fl_1_21, s_istore_8, am_kil_n, am_kil_i, am_kil_r, am_kil_l, s_iload_8, s_iconst_3, s_if2_lt, jm_124_6, s_irt, am_irq_1, am_irq_2, s_aload_5, fl_1_104, s_istore_9, s_iload_9, s_if2_ge, jm_143_6, s_iconst_4, s_if2_ne, jm_152_5, s_iconst_5, jm_160_20, s_bipush_14, jm_167_13, s_isub, s_iload_n_3, s_ivs, am_isv_1, am_isv_3, am_isv_5, s_acp, am_cpq_e, am_po_s, am_po_n, am_sl_n, am_sl_i, am_sl_r, am_sl_l, ml_1_107, cq_9, s_iload_7, s_istore_10, s_if2_eq, jm_208_9, s_iload_10, jm_214_6, fl_1_110, s_imul, s_iadd, Int.le_refl, am_c3, am_c4, am_c6, am_c7, am_c8, am_c9, am_c27, am_c60, am_c240, am_c418, am_c3500, am_up_s, am_up_n, am_uu, ne_eq, Nat.reduceAdd, Int.reduceAdd, Int.reduceNeg, Int.reduceLE, Int.reduceToNat, true_and, and_true, List.length_cons, List.length_nil, Nat.reduceLeDiff, Nat.zero_add, Nat.add_zero, Nat.le_refl, true_or, or_true, reduceCtorEq, false_implies, implies_true, true_implies, not_true_eq_false, not_false_eq_true, eq_self, Int.zero_add, Int.reduceEq, Nat.reduceEqDiff, r1, r5, r6, r10, r11, f1, f2, f3, f4, f5, Int.toNat_natCast, gd_ss, gd_sn, List.length_set, List.set_set, htl]
    have ra := evt_rng (bd := cbd sn) (pk := cpk sn) hwf l2 (fun x _ => am_and3 _) fi (by omega)
    have rb := evt_rng (bd := cbd sn) (pk := cpk sn) hwf l2 (fun x _ => am_and3 _) ot (by omega)
    rw [← a1] at ra
    rw [← c1] at rb
    clear a1 c1 ht1
    generalize to.getD fi 0 = A at *
    generalize to.getD ot 0 = B at *
    have tail : ∀ z : 3 ≤ G.2.2.2.1.getD A.toNat 0, A < 3 → ¬ G.2.2.2.1.getD A.toNat 0 = 4 → ¬ (5 ≤ G.2.2.2.1.getD A.toNat 0 ∧ G.2.2.2.1.getD A.toNat 0 < 14) → (G.2.2.2.1.getD A.toNat 0 = 3 → K (some (Sum.inl B)) n (am_up h (r + 5) (Sum.inr (Sum.inl (tl.set t (am_or (am_or (am_shl 1 t) (tl.getD fi 0)) (tl.getD ot 0))))))) ∧ (¬ G.2.2.2.1.getD A.toNat 0 = 3 → (B < 3 → (0 ≤ wr (wr (3 * A) + B) ∧ wr (wr (3 * A) + B) < 9) ∧ K (some (Sum.inl (G.2.2.2.2.getD (wr (wr (3 * A) + B)).toNat 0))) n (am_up h (r + 5) (Sum.inr (Sum.inl (tl.set t (am_or (am_or (am_shl 1 t) (tl.getD fi 0)) (tl.getD ot 0))))))) ∧ (¬ B < 3 → K (some (Sum.inl B)) n (am_up h (r + 5) (Sum.inr (Sum.inl (tl.set t (am_or (am_or (am_shl 1 t) (tl.getD fi 0)) (tl.getD ot 0)))))))) := by
      intro y1 y2 y3 y4
      have kk := k
      rw [hev, if_neg (by omega), if_neg (by omega), if_neg y3, if_neg y4] at kk
      dsimp only at kk
      refine ⟨fun y5 => ?_, fun y5 => ⟨fun y6 => ⟨?_, ?_⟩, fun y6 => ?_⟩⟩
      · rw [if_pos (Or.inl y5)] at kk; exact kk
      · rw [wr_ok (x := 3 * A) (by omega) (by omega), wr_ok (by omega) (by omega)]; omega
      · rw [if_neg (by omega)] at kk
        rw [wr_ok (x := 3 * A) (by omega) (by omega), wr_ok (by omega) (by omega)]
        exact kk
      · rw [if_pos (Or.inr (by omega))] at kk; exact kk
    refine ⟨by omega, by omega, by omega, by omega, fun y1 => ⟨by omega, fun y2 => ⟨fun y3 => ⟨fun y4 => ⟨by omega, by omega, by omega, by omega, tail y2 y1 y3 (by omega)⟩, fun y4 => ⟨fun y5 => ⟨by omega, by omega, by omega, by omega, tail y2 y1 y3 (by omega)⟩, fun y5 => ?_⟩⟩, fun y3 => ?_⟩, fun y2 => ?_⟩, fun y1 => ?_⟩
    · rw [wr_ok (by omega) (by omega)]
      refine sp_outcomeOfChoice (by omega) (by omega) ?_
      refine am_run 400 ?_; simp (disch := omega) only [ow_8, rt_8, rn_8_96, rn_8_97, rn_8_100, rn_8_101, rn_8_102, rn_8_103, rn_8_104, rn_8_107, rn_8_109, rn_8_110, rn_8_111, rn_8_112, rn_8_113, rn_8_116, rn_8_118, rn_8_119, rn_8_121, rn_8_123, rn_8_124, rn_8_127, rn_8_129, rn_8_130, rn_8_132, rn_8_135, rn_8_137, rn_8_138, rn_8_140, rn_8_142, rn_8_143, rn_8_146, rn_8_148, rn_8_149, rn_8_151, rn_8_152, rn_8_155, rn_8_156, rn_8_157, rn_8_159, rn_8_160, rn_8_163, rn_8_165, rn_8_167, rn_8_170, rn_8_172, rn_8_173, rn_8_174, rn_8_175, rn_8_176, rn_8_179, rn_8_180, rn_8_181, rn_8_184, rn_8_185, rn_8_186, rn_8_187, rn_8_188, rn_8_191, rn_8_193, rn_8_194, rn_8_195, rn_8_196, rn_8_197, rn_8_200, rn_8_202, rn_8_203, rn_8_205, rn_8_207, rn_8_208, rn_8_211, rn_8_213, rn_8_214, rn_8_217, rn_8_219, rn_8_220, rn_8_222, rn_8_225, rn_8_226, rn_8_228, rn_8_229, rn_8_231, rn_8_232, rn_8_233, s_aload_n_0, s_gf, am_gfq_e, am_nth_0, am_nth_s, fl_1_24, s_iload_n_2, s_dup2, s_iald, am_iaq_e, s_iload_6, s_ior, s_iast, am_iwq_e, fl_1_21, s_istore_8, am_kil_n, am_kil_i, am_kil_r, am_kil_l, s_iload_8, s_iconst_3, s_if2_lt, jm_124_6, s_irt, am_irq_1, am_irq_2, s_aload_5, fl_1_104, s_istore_9, s_iload_9, s_if2_ge, jm_143_6, s_iconst_4, s_if2_ne, jm_152_5, s_iconst_5, jm_160_20, s_bipush_14, jm_167_13, s_isub, s_iload_n_3, s_ivs, am_isv_1, am_isv_3, am_isv_5, s_acp, am_cpq_e, am_po_s, am_po_n, am_sl_n, am_sl_i, am_sl_r, am_sl_l, ml_1_107, cq_9, s_iload_7, s_istore_10, s_if2_eq, jm_208_9, s_iload_10, jm_214_6, fl_1_110, s_imul, s_iadd, Int.le_refl, am_c3, am_c4, am_c6, am_c7, am_c8, am_c9, am_c27, am_c60, am_c240, am_c418, am_c3500, am_up_s, am_up_n, am_uu, ne_eq, Nat.reduceAdd, Int.reduceAdd, Int.reduceNeg, Int.reduceLE, Int.reduceToNat, true_and, and_true, List.length_cons, List.length_nil, Nat.reduceLeDiff, Nat.zero_add, Nat.add_zero, Nat.le_refl, true_or, or_true, reduceCtorEq, false_implies, implies_true, true_implies, not_true_eq_false, not_false_eq_true, eq_self, Int.zero_add, Int.reduceEq, Nat.reduceEqDiff]
      rw [hev, if_neg (by omega), if_neg (by omega), if_neg y3, if_pos ⟨by omega, by omega⟩] at k
      exact k
    · rw [hev, if_neg (by omega), if_neg (by omega), if_pos y3] at k
      exact k
    · rw [hev, if_neg (by omega), if_pos (by omega)] at k
      exact k
    · rw [hev, if_pos (by omega)] at k
      exact k
  refine am_run 400 ?_; simp (disch := omega) only [ow_8, rt_8, rn_8_0, rn_8_1, rn_8_4, rn_8_5, rn_8_6, rn_8_8, rn_8_9, rn_8_11, rn_8_14, rn_8_17, rn_8_19, rn_8_21, rn_8_24, rn_8_26, rn_8_29, rn_8_30, rn_8_33, rn_8_36, rn_8_38, rn_8_41, rn_8_42, rn_8_45, rn_8_48, rn_8_49, rn_8_50, rn_8_52, rn_8_55, rn_8_58, rn_8_60, rn_8_63, rn_8_66, rn_8_68, rn_8_71, rn_8_73, rn_8_75, rn_8_78, rn_8_81, rn_8_83, rn_8_86, rn_8_89, rn_8_91, rn_8_94, s_aload_n_1, s_gf, am_gfq_e, am_nth_0, am_nth_s, fl_1_65, s_iload_n_2, s_aald, am_aaq_e, s_astore_4, am_kil_n, am_kil_i, am_kil_r, am_kil_l, s_aload_4, fl_1_74, s_ivv, am_ivq_e, am_cvq_e, am_po_s, am_po_n, am_sl_n, am_sl_i, am_sl_r, am_sl_l, ml_1_85, cq_43, s_astore_5, s_aload_5, s_ifn_n, s_ifn_s, jm_21_27, fl_1_89, s_ivs, am_isv_1, am_isv_3, am_isv_5, s_acp, am_cpq_e, ml_1_92, cq_82, s_if1_eq, jm_33_15, fl_1_96, s_if1_ne, jm_45_5, s_iconst_3, s_irt, am_irq_1, am_irq_2, fl_1_99, jm_55_11, s_goto, jm_63_8, s_istore_6, jm_78_11, jm_86_8, s_istore_7, Int.le_refl, am_c3, am_c4, am_c6, am_c7, am_c8, am_c9, am_c27, am_c60, am_c240, am_c418, am_c3500, am_up_s, am_up_n, am_uu, ne_eq, Nat.reduceAdd, Int.reduceAdd, Int.reduceNeg, Int.reduceLE, Int.reduceToNat, true_and, and_true, List.length_cons, List.length_nil, Nat.reduceLeDiff, Nat.zero_add, Nat.add_zero, Nat.le_refl, true_or, or_true, reduceCtorEq, false_implies, implies_true, true_implies, not_true_eq_false, not_false_eq_true, eq_self, Int.zero_add, Int.reduceEq, Nat.reduceEqDiff, hti, f1]
  refine ⟨fun z => ⟨fun z1 => ?_, fun z1 => absurd z1 z⟩, fun z => ⟨fun z1 => absurd z z1, fun z1 => ?_⟩⟩
  · have h9 := key 297 (T t).2.2.2.toNat (T t).2.2.1.toNat (by omega) (by omega) (by rw [if_neg z]; omega) (by rw [if_neg z]; omega)
    rw [show (((T t).2.2.2.toNat : Nat) : Int) = (T t).2.2.2 by omega, show (((T t).2.2.1.toNat : Nat) : Int) = (T t).2.2.1 by omega] at h9
    exact h9
  · have h9 := key 295 (T t).2.2.1.toNat (T t).2.2.2.toNat (by omega) (by omega) (by rw [if_pos z]; omega) (by rw [if_pos z]; omega)
    rw [show (((T t).2.2.2.toNat : Nat) : Int) = (T t).2.2.2 by omega, show (((T t).2.2.1.toNat : Nat) : Int) = (T t).2.2.1 by omega] at h9
    exact h9
end
