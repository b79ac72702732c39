/-! MODEL 3: what a term comes to -/
def mc (o : Int) : Int := if o < 3 then o else if o = 3 then 30 else if o < 8 then o + 6 else o + 12
theorem mc_v {o : Int} (h : o < 3) : mc o = o := if_pos h
theorem mc_lt {o : Int} (h : 0 ≤ o) : mc o < 3 ↔ o < 3 := by
  unfold mc
  split
  · exact Iff.rfl
  · split
    · omega
    · split <;> omega
def tw2 (F : FnT) (v : Int) (pk : Int) (t : Nat) (L : Int) (B : Int × Int) : Int × Int :=
  if F.2.2.2.1.getD v.toNat 0 < 3 then (F.2.2.2.1.getD v.toNat 0, L)
  else if F.2.2.2.1.getD v.toNat 0 = 4 then (3, L)
  else if 5 ≤ F.2.2.2.1.getD v.toNat 0 ∧ F.2.2.2.1.getD v.toNat 0 < 14 then (if pk = 0 then 8 + (t : Int) else if pk = 2 then (F.2.2.2.1.getD v.toNat 0 - 5) % 3 else (F.2.2.2.1.getD v.toNat 0 - 5) / 3, L)
  else (if F.2.2.2.1.getD v.toNat 0 = 3 ∨ 3 ≤ B.1 then B.1 else F.2.2.2.2.getD (3 * v + B.1).toNat 0, am_or L B.2)
section
variable {d n : Nat} {h : am_H} {K : am_K} {fns : List FnT} {tms : List TmT} {gs : List Int} {ft tr fc tc pt rf st an vs lp wa ws wt wv wl rc : Int}
theorem sp_findTwig {f t rest : Nat} {v m L : Int} {B : Int × Int} {is lk : List Int} (ho : h 58 = mO ft tr fc tc pt rf st an vs lp wa ws wt wv wl rc) (hM : MF h fns) (hwf : WF fns tms) (hf3 : fns.length ≤ 3) (hf : f < fns.length) (hv : 0 ≤ v ∧ v < 3) (ht : t < 6) (hr : rest < t) (h77 : h 77 = aC is) (h78 : h 78 = aC lk) (li : is.length = 6) (ll : lk.length = 6) (eB : is.getD rest 0 = mc B.1) (eL : lk.getD rest 0 = B.2) (hB : 0 ≤ B.1 ∧ B.1 ≤ 13) (eT : lk.getD t 0 = L) (hp : mpk m t ≠ 3)
    (k : K none n (am_up (am_up h 77 (aC (is.set t (mc (tw2 (fns.getD f fn0) v (mpk m t) t L B).1)))) 78 (aC (lk.set t (tw2 (fns.getD f fn0) v (mpk m t) t L B).2)))) : am_M (d + 2) 126 [rV 58, iV t, iV (3 * f + v), iV rest, iV m] n h K := by
  obtain ⟨a, b, c, e, g, m1, m2, m3, m4, m5, l1, l2, l3, l4, l5, hh⟩ := hM
  obtain ⟨e1, e2, e3, e4⟩ := hh f hf
  have hw := hwf.1 _ _ (gd_get fn0 hf)
  obtain ⟨vn, rfl⟩ : ∃ vn : Nat, v = vn := ⟨v.toNat, by omega⟩
  obtain ⟨g1, g2⟩ := e4 vn (by omega)
  have hwt := hw.2.2.2.2.2 vn (by omega)
  have eq : (3 * (f : Int) + vn).toNat = 3 * f + vn := by omega
  unfold tw2 at k
  rw [Int.toNat_natCast] at k
  generalize hF : fns.getD f fn0 = F at *
  generalize hT : F.2.2.2.1.getD vn 0 = tw at *
  have hrt : rest ≠ t := by omega
  have htr : t ≠ rest := by omega
  refine en_126 (am_run 400 ?_); simp (disch := omega) only [ow_126, rt_126, rn_126_0, rn_126_1, rn_126_4, rn_126_5, rn_126_6, rn_126_8, rn_126_10, rn_126_11, rn_126_14, rn_126_15, rn_126_18, rn_126_19, rn_126_21, rn_126_22, rn_126_25, rn_126_27, rn_126_28, rn_126_31, rn_126_32, rn_126_35, rn_126_36, rn_126_38, rn_126_39, rn_126_42, rn_126_44, rn_126_45, rn_126_48, rn_126_50, rn_126_52, rn_126_55, rn_126_56, rn_126_59, rn_126_60, rn_126_61, rn_126_62, rn_126_63, rn_126_66, rn_126_67, rn_126_68, rn_126_69, rn_126_70, rn_126_71, rn_126_74, rn_126_75, rn_126_76, rn_126_79, rn_126_80, rn_126_81, rn_126_82, rn_126_84, rn_126_86, rn_126_89, rn_126_90, rn_126_93, rn_126_94, rn_126_95, rn_126_96, rn_126_99, rn_126_100, rn_126_103, rn_126_104, rn_126_105, rn_126_106, rn_126_107, rn_126_110, rn_126_111, rn_126_112, rn_126_113, rn_126_114, rn_126_116, rn_126_117, rn_126_120, rn_126_121, rn_126_123, rn_126_124, rn_126_127, rn_126_129, rn_126_132, rn_126_134, rn_126_135, rn_126_138, rn_126_140, rn_126_141, rn_126_144, rn_126_146, rn_126_147, rn_126_150, rn_126_151, rn_126_153, rn_126_156, rn_126_158, rn_126_159, rn_126_160, rn_126_163, rn_126_165, rn_126_166, rn_126_169, rn_126_171, rn_126_172, rn_126_173, rn_126_174, rn_126_175, rn_126_178, rn_126_180, rn_126_181, rn_126_182, rn_126_183, rn_126_184, rn_126_185, s_aload_n_0, s_gf, am_gfq_e, am_nth_0, am_nth_s, fl_7_28, s_iload_n_2, s_iald, am_iaq_e, s_istore_5, am_kil_n, am_kil_i, am_kil_r, am_kil_l, s_iload_5, s_iconst_3, s_if2_ge, jm_11_14, fl_7_64, s_iload_n_1, s_iast, am_iwq_e, s_goto, jm_22_163, s_iconst_4, s_if2_ne, jm_28_14, s_bipush_30, jm_39_146, s_if2_eq, jm_45_10, s_bipush_14, jm_52_86, fl_7_67, s_dup2, s_iload_n_3, s_ior, jm_86_99, jm_96_89, fl_7_31, s_imul, s_iadd, s_istore_6, s_iload_6, jm_124_8, jm_129_5, jm_135_50, s_iload_4, s_ivs, am_isv_1, am_isv_3, am_isv_5, s_acp, am_cpq_e, am_po_s, am_po_n, am_sl_n, am_sl_i, am_sl_r, am_sl_l, ml_7_162, cq_124, s_if1_ne, jm_153_10, s_bipush_20, jm_160_24, s_iconst_1, jm_166_12, s_iconst_5, s_isub, s_idiv, jm_175_9, s_irem, s_vrt, am_orq_e, Int.le_refl, am_c3, am_c4, am_c6, am_c7, am_c8, am_c9, am_c27, am_c60, am_c240, am_c418, am_c3500, am_up_s, am_up_n, am_uu, ne_eq, Nat.reduceAdd, Int.reduceAdd, Int.reduceNeg, Int.reduceLE, Int.reduceToNat, true_and, and_true, List.length_cons, List.length_nil, Nat.reduceLeDiff, Nat.zero_add, Nat.add_zero, Nat.le_refl, true_or, or_true, reduceCtorEq, false_implies, implies_true, true_implies, not_true_eq_false, not_false_eq_true, eq_self, Int.zero_add, Int.reduceEq, Nat.reduceEqDiff, ho, m4, m5, l4, l5, eq, g1, h77, h78, li, ll, Int.toNat_natCast, eB, eL, eT, gd_sn htr, gd_ss, List.length_set, List.set_set, mc_lt]
  have sl : lk.set t L = lk := by
    refine gd_ext 0 (by simp) (fun i hi => ?_)
    by_cases z : i = t
    · rw [z, gd_ss (by omega), eT]
    · rw [gd_sn (by omega)]
  have kL : ∀ x : Int, (am_up (am_up h 77 (aC (is.set t x))) 78 (aC (lk.set t L))) = am_up h 77 (aC (is.set t x)) := fun x => by
    rw [sl, am_up_self]
    rw [am_up_n (by omega)]
    exact h78
  have kB : ∀ x y : Int, am_up (am_up h 78 (aC (lk.set t y))) 77 (aC (is.set t x)) = am_up (am_up h 77 (aC (is.set t x))) 78 (aC (lk.set t y)) := fun x y => am_up_cm (by omega)
  have oth : ∀ z : tw = 3 ∨ tw = 14, tw = 3 ∨ 3 ≤ B.1 → K none n (am_up (am_up h 78 (aC (lk.set t (am_or L B.2)))) 77 (aC (is.set t (mc B.1)))) := by
    intro z z1
    rw [if_neg (by omega), if_neg (by omega), if_neg (by omega)] at k
    dsimp only at k
    rw [if_pos (by omega)] at k
    rw [kB]; exact k
  have prt : tw = 14 → ¬ 3 ≤ mc B.1 → (0 ≤ wr (wr (3 * (3 * (f : Int) + vn)) + mc B.1) ∧ wr (wr (3 * (3 * (f : Int) + vn)) + mc B.1) < 27) ∧ (g.getD (wr (wr (3 * (3 * (f : Int) + vn)) + mc B.1)).toNat 0 = 4 → K none n (am_up (am_up h 78 (aC (lk.set t (am_or L B.2)))) 77 (aC (is.set t 30)))) ∧ (¬ g.getD (wr (wr (3 * (3 * (f : Int) + vn)) + mc B.1)).toNat 0 = 4 → K none n (am_up (am_up h 78 (aC (lk.set t (am_or L B.2)))) 77 (aC (is.set t (g.getD (wr (wr (3 * (3 * (f : Int) + vn)) + mc B.1)).toNat 0))))) := by
    intro z z1
    have b3 : B.1 < 3 := by have := mc_lt hB.1; omega
    rw [mc_v b3, wr_ok (x := 3 * (3 * (f : Int) + vn)) (by omega) (by omega), wr_ok (by omega) (by omega)]
    rw [if_neg (by omega), if_neg (by omega), if_neg (by omega)] at k
    dsimp only at k
    rw [if_neg (by omega)] at k
    have u1 := g2 z B.1.toNat (by omega)
    have u2 := hwt.2 z B.1.toNat (by omega)
    rw [show (3 * (vn : Int) + B.1).toNat = 3 * vn + B.1.toNat by omega] at k
    rw [show (3 * (3 * (f : Int) + vn) + B.1).toNat = 9 * f + 3 * vn + B.1.toNat by omega, u1]
    generalize F.2.2.2.2.getD (3 * vn + B.1.toNat) 0 = x at *
    refine ⟨by omega, fun z2 => ?_, fun z2 => ?_⟩
    · unfold p4 at z2
      have : x = 3 := by split at z2 <;> omega
      rw [this] at k
      rw [kB]; exact k
    · unfold p4 at z2 ⊢
      have : ¬ x = 3 := by intro z3; rw [if_pos z3] at z2; exact z2 rfl
      rw [if_neg this]
      rw [mc_v (by omega)] at k
      rw [kB]; exact k
  refine ⟨by omega, fun y => ⟨fun y1 => ⟨fun y2 => ⟨by omega, by omega, by omega, by omega, by omega, fun y3 => oth (by omega) (by omega), fun y3 => by omega⟩, fun y2 => ⟨fun y3 => ?_, fun y3 => ⟨by omega, by omega, by omega, by omega, by omega, fun y4 => by omega, fun y4 => ⟨by omega, fun y5 => oth (by omega) (by have := mc_lt hB.1; omega), fun y5 => ⟨by omega, (prt y4 y5).1, fun y6 => ⟨by omega, (prt y4 y5).2.2 y6⟩, fun y6 => ⟨by omega, (prt y4 y5).2.1 y6⟩⟩⟩⟩⟩⟩, fun y1 => ⟨by omega, ?_⟩⟩, fun y => ⟨by omega, ?_⟩⟩
  · rw [if_neg (by omega), if_neg (by omega), if_pos (by omega)] at k
    dsimp only at k
    rw [kL] at k
    refine sp_pickedIn ?_
    have hpr : 0 ≤ mpk m t ∧ mpk m t ≤ 3 := am_and3 _
    generalize mpk m t = pk at *
    refine am_run 400 ?_; simp (disch := omega) only [ow_126, rt_126, rn_126_0, rn_126_1, rn_126_4, rn_126_5, rn_126_6, rn_126_8, rn_126_10, rn_126_11, rn_126_14, rn_126_15, rn_126_18, rn_126_19, rn_126_21, rn_126_22, rn_126_25, rn_126_27, rn_126_28, rn_126_31, rn_126_32, rn_126_35, rn_126_36, rn_126_38, rn_126_39, rn_126_42, rn_126_44, rn_126_45, rn_126_48, rn_126_50, rn_126_52, rn_126_55, rn_126_56, rn_126_59, rn_126_60, rn_126_61, rn_126_62, rn_126_63, rn_126_66, rn_126_67, rn_126_68, rn_126_69, rn_126_70, rn_126_71, rn_126_74, rn_126_75, rn_126_76, rn_126_79, rn_126_80, rn_126_81, rn_126_82, rn_126_84, rn_126_86, rn_126_89, rn_126_90, rn_126_93, rn_126_94, rn_126_95, rn_126_96, rn_126_99, rn_126_100, rn_126_103, rn_126_104, rn_126_105, rn_126_106, rn_126_107, rn_126_110, rn_126_111, rn_126_112, rn_126_113, rn_126_114, rn_126_116, rn_126_117, rn_126_120, rn_126_121, rn_126_123, rn_126_124, rn_126_127, rn_126_129, rn_126_132, rn_126_134, rn_126_135, rn_126_138, rn_126_140, rn_126_141, rn_126_144, rn_126_146, rn_126_147, rn_126_150, rn_126_151, rn_126_153, rn_126_156, rn_126_158, rn_126_159, rn_126_160, rn_126_163, rn_126_165, rn_126_166, rn_126_169, rn_126_171, rn_126_172, rn_126_173, rn_126_174, rn_126_175, rn_126_178, rn_126_180, rn_126_181, rn_126_182, rn_126_183, rn_126_184, rn_126_185, s_aload_n_0, s_gf, am_gfq_e, am_nth_0, am_nth_s, fl_7_28, s_iload_n_2, s_iald, am_iaq_e, s_istore_5, am_kil_n, am_kil_i, am_kil_r, am_kil_l, s_iload_5, s_iconst_3, s_if2_ge, jm_11_14, fl_7_64, s_iload_n_1, s_iast, am_iwq_e, s_goto, jm_22_163, s_iconst_4, s_if2_ne, jm_28_14, s_bipush_30, jm_39_146, s_if2_eq, jm_45_10, s_bipush_14, jm_52_86, fl_7_67, s_dup2, s_iload_n_3, s_ior, jm_86_99, jm_96_89, fl_7_31, s_imul, s_iadd, s_istore_6, s_iload_6, jm_124_8, jm_129_5, jm_135_50, s_iload_4, s_ivs, am_isv_1, am_isv_3, am_isv_5, s_acp, am_cpq_e, am_po_s, am_po_n, am_sl_n, am_sl_i, am_sl_r, am_sl_l, ml_7_162, cq_124, s_if1_ne, jm_153_10, s_bipush_20, jm_160_24, s_iconst_1, jm_166_12, s_iconst_5, s_isub, s_idiv, jm_175_9, s_irem, s_vrt, am_orq_e, Int.le_refl, am_c3, am_c4, am_c6, am_c7, am_c8, am_c9, am_c27, am_c60, am_c240, am_c418, am_c3500, am_up_s, am_up_n, am_uu, ne_eq, Nat.reduceAdd, Int.reduceAdd, Int.reduceNeg, Int.reduceLE, Int.reduceToNat, true_and, and_true, List.length_cons, List.length_nil, Nat.reduceLeDiff, Nat.zero_add, Nat.add_zero, Nat.le_refl, true_or, or_true, reduceCtorEq, false_implies, implies_true, true_implies, not_true_eq_false, not_false_eq_true, eq_self, Int.zero_add, Int.reduceEq, Nat.reduceEqDiff, ho, m4, m5, l4, l5, eq, g1, h77, h78, li, ll, Int.toNat_natCast]
    rw [wr_ok (x := tw - 5) (by omega) (by omega), wr_ok (x := 20 + (t : Int)) (by omega) (by omega), Int.tmod_eq_emod_of_nonneg (by omega), Int.tdiv_eq_ediv_of_nonneg (by omega), wr_ok (by omega) (by omega)]
    refine ⟨fun w1 => ⟨fun w2 => ⟨by omega, ?_⟩, fun w2 => ⟨by omega, ?_⟩⟩, fun w1 => ⟨by omega, ?_⟩⟩
    · rw [if_neg w1, if_pos (by omega), mc_v (by omega)] at k
      exact k
    · rw [if_neg w1, if_neg (by omega), mc_v (by omega)] at k
      exact k
    · rw [if_pos w1] at k
      have e9 : mc (8 + (t : Int)) = 20 + (t : Int) := by
        unfold mc
        rw [if_neg (by omega), if_neg (by omega), if_neg (by omega)]
        omega
      rw [e9] at k
      exact k
  · rw [if_neg (by omega), if_pos (by omega), kL] at k
    exact k
  · rw [if_pos (by omega), kL, mc_v (by omega)] at k
    exact k
set_option maxRecDepth 100000 in
theorem sp_findTerm {t : Nat} {m : Int} {is lk : List Int} (ho : h 58 = mO ft tr fc tc pt rf st an vs lp wa ws wt wv wl rc) (hW : MW h fns tms gs) (hwf : WF fns tms) (ht : t < tms.length) (h77 : h 77 = aC is) (h78 : h 78 = aC lk) (li : is.length = 6) (ll : lk.length = 6) (hp : mpk m t ≠ 3)
    (hh : ∀ j, j < t → is.getD j 0 = mc (mev fns tms j m).1 ∧ lk.getD j 0 = (mev fns tms j m).2)
    (k : K none n (am_up (am_up h 77 (aC (is.set t (mc (mev fns tms t m).1)))) 78 (aC (lk.set t (mev fns tms t m).2)))) : am_M (d + 3) 125 [rV 58, iV t, iV m] n h K := by
  obtain ⟨hM, hT, hg, lg, l3, l6⟩ := id hW
  obtain ⟨a, b, c, e, g, m1, m2, m3, m4, m5, x1, x2, x3, x4, x5, hf⟩ := id hM
  obtain ⟨b1, b2, b3, b4, n1, n2, n3, n4, y1, y2, y3, y4, hq⟩ := hT
  obtain ⟨q1, q2, q3, q4⟩ := hq t ht
  have hx := hwf.2 t _ (gd_get tm0 ht)
  have hev : mev fns tms t m = ev1 fns (cbd m) (mpk m) (evp fns tms (cbd m) (mpk m) t) (tms.getD t tm0) := rfl
  generalize hX : tms.getD t tm0 = X at *
  unfold ev1 at hev
  rw [evp_len] at hev
  rcases hx with ⟨z, z1, z2⟩ | ⟨z, z1, z2⟩ | ⟨z, ⟨z1, z2⟩, ⟨z3, z4⟩, z5, z6⟩
  · rw [if_pos z] at hev
    rw [hev, mc_v (by dsimp only; omega), am_up_cm (by omega)] at k
    refine en_125 (am_run 400 ?_); simp (disch := omega) only [ow_125, rt_125, rn_125_0, rn_125_1, rn_125_4, rn_125_5, rn_125_6, rn_125_7, rn_125_8, rn_125_9, rn_125_10, rn_125_13, rn_125_14, rn_125_15, rn_125_18, rn_125_19, rn_125_22, rn_125_23, rn_125_24, rn_125_27, rn_125_28, rn_125_29, rn_125_30, rn_125_31, rn_125_32, rn_125_35, rn_125_36, rn_125_37, rn_125_38, rn_125_41, rn_125_42, rn_125_43, rn_125_46, rn_125_47, rn_125_48, rn_125_51, rn_125_52, rn_125_53, rn_125_56, rn_125_57, rn_125_58, rn_125_59, rn_125_62, rn_125_64, rn_125_65, rn_125_68, rn_125_69, rn_125_70, rn_125_71, rn_125_74, rn_125_75, rn_125_76, rn_125_77, rn_125_78, rn_125_81, rn_125_82, rn_125_83, rn_125_84, rn_125_85, rn_125_88, rn_125_89, rn_125_90, rn_125_93, rn_125_94, rn_125_97, rn_125_98, rn_125_99, rn_125_102, rn_125_103, rn_125_106, rn_125_107, rn_125_108, rn_125_110, rn_125_111, rn_125_114, rn_125_115, rn_125_116, rn_125_119, rn_125_120, rn_125_123, rn_125_124, rn_125_125, rn_125_128, rn_125_129, rn_125_132, rn_125_133, rn_125_134, rn_125_136, rn_125_137, rn_125_140, rn_125_141, rn_125_142, rn_125_143, rn_125_144, rn_125_147, rn_125_149, rn_125_150, rn_125_151, rn_125_152, rn_125_153, rn_125_156, rn_125_157, rn_125_158, rn_125_161, rn_125_163, rn_125_164, rn_125_165, rn_125_166, rn_125_169, rn_125_170, rn_125_171, rn_125_172, rn_125_175, rn_125_176, rn_125_177, rn_125_178, rn_125_179, rn_125_180, rn_125_181, rn_125_184, rn_125_186, rn_125_187, rn_125_188, rn_125_190, rn_125_191, rn_125_194, s_aload_n_0, s_gf, am_gfq_e, am_nth_0, am_nth_s, fl_7_67, s_iload_n_1, s_iconst_1, s_ishl, s_iast, am_iwq_e, fl_7_34, s_iald, am_iaq_e, s_if1_ne, jm_15_16, fl_7_64, fl_7_37, s_vrt, am_orq_e, s_if2_ne, jm_38_39, s_iload_n_2, s_ivs, am_isv_1, am_isv_3, am_isv_5, s_acp, am_cpq_e, am_po_s, am_po_n, am_sl_n, am_sl_i, am_sl_r, am_sl_l, ml_7_154, cq_123, s_istore_n_3, am_kil_n, am_kil_i, am_kil_r, am_kil_l, s_iload_n_3, s_iconst_3, jm_59_15, s_bipush_10, s_iadd, s_goto, jm_71_4, fl_7_25, jm_90_12, fl_7_40, jm_99_9, fl_7_43, s_istore_4, jm_116_12, jm_125_9, s_istore_5, s_dup2, s_iload_4, s_ior, s_if2_ge, jm_172_22, s_imul, s_iload_5, s_ivv, am_ivq_e, am_cvq_e, ml_7_158, cq_126, Int.le_refl, am_c3, am_c4, am_c6, am_c7, am_c8, am_c9, am_c27, am_c60, am_c240, am_c418, am_c3500, am_up_s, am_up_n, am_uu, ne_eq, Nat.reduceAdd, Int.reduceAdd, Int.reduceNeg, Int.reduceLE, Int.reduceToNat, true_and, and_true, List.length_cons, List.length_nil, Nat.reduceLeDiff, Nat.zero_add, Nat.add_zero, Nat.le_refl, true_or, or_true, reduceCtorEq, false_implies, implies_true, true_implies, not_true_eq_false, not_false_eq_true, eq_self, Int.zero_add, Int.reduceEq, Nat.reduceEqDiff, ho, n1, n2, y1, y2, q1, q2, h77, h78, li, ll, Int.toNat_natCast, z]
    exact ⟨by omega, by omega, by omega, by omega, k⟩
  · rw [if_neg (by omega), if_pos z] at hev
    refine en_125 (am_run 400 ?_); simp (disch := omega) only [ow_125, rt_125, rn_125_0, rn_125_1, rn_125_4, rn_125_5, rn_125_6, rn_125_7, rn_125_8, rn_125_9, rn_125_10, rn_125_13, rn_125_14, rn_125_15, rn_125_18, rn_125_19, rn_125_22, rn_125_23, rn_125_24, rn_125_27, rn_125_28, rn_125_29, rn_125_30, rn_125_31, rn_125_32, rn_125_35, rn_125_36, rn_125_37, rn_125_38, rn_125_41, rn_125_42, rn_125_43, rn_125_46, rn_125_47, rn_125_48, rn_125_51, rn_125_52, rn_125_53, rn_125_56, rn_125_57, rn_125_58, rn_125_59, rn_125_62, rn_125_64, rn_125_65, rn_125_68, rn_125_69, rn_125_70, rn_125_71, rn_125_74, rn_125_75, rn_125_76, rn_125_77, rn_125_78, rn_125_81, rn_125_82, rn_125_83, rn_125_84, rn_125_85, rn_125_88, rn_125_89, rn_125_90, rn_125_93, rn_125_94, rn_125_97, rn_125_98, rn_125_99, rn_125_102, rn_125_103, rn_125_106, rn_125_107, rn_125_108, rn_125_110, rn_125_111, rn_125_114, rn_125_115, rn_125_116, rn_125_119, rn_125_120, rn_125_123, rn_125_124, rn_125_125, rn_125_128, rn_125_129, rn_125_132, rn_125_133, rn_125_134, rn_125_136, rn_125_137, rn_125_140, rn_125_141, rn_125_142, rn_125_143, rn_125_144, rn_125_147, rn_125_149, rn_125_150, rn_125_151, rn_125_152, rn_125_153, rn_125_156, rn_125_157, rn_125_158, rn_125_161, rn_125_163, rn_125_164, rn_125_165, rn_125_166, rn_125_169, rn_125_170, rn_125_171, rn_125_172, rn_125_175, rn_125_176, rn_125_177, rn_125_178, rn_125_179, rn_125_180, rn_125_181, rn_125_184, rn_125_186, rn_125_187, rn_125_188, rn_125_190, rn_125_191, rn_125_194, s_aload_n_0, s_gf, am_gfq_e, am_nth_0, am_nth_s, fl_7_67, s_iload_n_1, s_iconst_1, s_ishl, s_iast, am_iwq_e, fl_7_34, s_iald, am_iaq_e, s_if1_ne, jm_15_16, fl_7_64, fl_7_37, s_vrt, am_orq_e, s_if2_ne, jm_38_39, s_iload_n_2, s_ivs, am_isv_1, am_isv_3, am_isv_5, s_acp, am_cpq_e, am_po_s, am_po_n, am_sl_n, am_sl_i, am_sl_r, am_sl_l, ml_7_154, cq_123, s_istore_n_3, am_kil_n, am_kil_i, am_kil_r, am_kil_l, s_iload_n_3, s_iconst_3, jm_59_15, s_bipush_10, s_iadd, s_goto, jm_71_4, fl_7_25, jm_90_12, fl_7_40, jm_99_9, fl_7_43, s_istore_4, jm_116_12, jm_125_9, s_istore_5, s_dup2, s_iload_4, s_ior, s_if2_ge, jm_172_22, s_imul, s_iload_5, s_ivv, am_ivq_e, am_cvq_e, ml_7_158, cq_126, Int.le_refl, am_c3, am_c4, am_c6, am_c7, am_c8, am_c9, am_c27, am_c60, am_c240, am_c418, am_c3500, am_up_s, am_up_n, am_uu, ne_eq, Nat.reduceAdd, Int.reduceAdd, Int.reduceNeg, Int.reduceLE, Int.reduceToNat, true_and, and_true, List.length_cons, List.length_nil, Nat.reduceLeDiff, Nat.zero_add, Nat.add_zero, Nat.le_refl, true_or, or_true, reduceCtorEq, false_implies, implies_true, true_implies, not_true_eq_false, not_false_eq_true, eq_self, Int.zero_add, Int.reduceEq, Nat.reduceEqDiff, ho, n1, n2, y1, y2, q1, q2, h77, h78, li, ll, Int.toNat_natCast, z]
    refine ⟨by omega, by omega, by omega, by omega, sp_boundIn ?_⟩
    have hb : 0 ≤ cbd m X.2.1 ∧ cbd m X.2.1 ≤ 3 := am_and3 _
    change am_W _ _ _ _ _ _ (am_po (some (iV (cbd m X.2.1))) []) _ _
    generalize cbd m X.2.1 = bb at *
    refine am_run 400 ?_; simp (disch := omega) only [ow_125, rt_125, rn_125_0, rn_125_1, rn_125_4, rn_125_5, rn_125_6, rn_125_7, rn_125_8, rn_125_9, rn_125_10, rn_125_13, rn_125_14, rn_125_15, rn_125_18, rn_125_19, rn_125_22, rn_125_23, rn_125_24, rn_125_27, rn_125_28, rn_125_29, rn_125_30, rn_125_31, rn_125_32, rn_125_35, rn_125_36, rn_125_37, rn_125_38, rn_125_41, rn_125_42, rn_125_43, rn_125_46, rn_125_47, rn_125_48, rn_125_51, rn_125_52, rn_125_53, rn_125_56, rn_125_57, rn_125_58, rn_125_59, rn_125_62, rn_125_64, rn_125_65, rn_125_68, rn_125_69, rn_125_70, rn_125_71, rn_125_74, rn_125_75, rn_125_76, rn_125_77, rn_125_78, rn_125_81, rn_125_82, rn_125_83, rn_125_84, rn_125_85, rn_125_88, rn_125_89, rn_125_90, rn_125_93, rn_125_94, rn_125_97, rn_125_98, rn_125_99, rn_125_102, rn_125_103, rn_125_106, rn_125_107, rn_125_108, rn_125_110, rn_125_111, rn_125_114, rn_125_115, rn_125_116, rn_125_119, rn_125_120, rn_125_123, rn_125_124, rn_125_125, rn_125_128, rn_125_129, rn_125_132, rn_125_133, rn_125_134, rn_125_136, rn_125_137, rn_125_140, rn_125_141, rn_125_142, rn_125_143, rn_125_144, rn_125_147, rn_125_149, rn_125_150, rn_125_151, rn_125_152, rn_125_153, rn_125_156, rn_125_157, rn_125_158, rn_125_161, rn_125_163, rn_125_164, rn_125_165, rn_125_166, rn_125_169, rn_125_170, rn_125_171, rn_125_172, rn_125_175, rn_125_176, rn_125_177, rn_125_178, rn_125_179, rn_125_180, rn_125_181, rn_125_184, rn_125_186, rn_125_187, rn_125_188, rn_125_190, rn_125_191, rn_125_194, s_aload_n_0, s_gf, am_gfq_e, am_nth_0, am_nth_s, fl_7_67, s_iload_n_1, s_iconst_1, s_ishl, s_iast, am_iwq_e, fl_7_34, s_iald, am_iaq_e, s_if1_ne, jm_15_16, fl_7_64, fl_7_37, s_vrt, am_orq_e, s_if2_ne, jm_38_39, s_iload_n_2, s_ivs, am_isv_1, am_isv_3, am_isv_5, s_acp, am_cpq_e, am_po_s, am_po_n, am_sl_n, am_sl_i, am_sl_r, am_sl_l, ml_7_154, cq_123, s_istore_n_3, am_kil_n, am_kil_i, am_kil_r, am_kil_l, s_iload_n_3, s_iconst_3, jm_59_15, s_bipush_10, s_iadd, s_goto, jm_71_4, fl_7_25, jm_90_12, fl_7_40, jm_99_9, fl_7_43, s_istore_4, jm_116_12, jm_125_9, s_istore_5, s_dup2, s_iload_4, s_ior, s_if2_ge, jm_172_22, s_imul, s_iload_5, s_ivv, am_ivq_e, am_cvq_e, ml_7_158, cq_126, Int.le_refl, am_c3, am_c4, am_c6, am_c7, am_c8, am_c9, am_c27, am_c60, am_c240, am_c418, am_c3500, am_up_s, am_up_n, am_uu, ne_eq, Nat.reduceAdd, Int.reduceAdd, Int.reduceNeg, Int.reduceLE, Int.reduceToNat, true_and, and_true, List.length_cons, List.length_nil, Nat.reduceLeDiff, Nat.zero_add, Nat.add_zero, Nat.le_refl, true_or, or_true, reduceCtorEq, false_implies, implies_true, true_implies, not_true_eq_false, not_false_eq_true, eq_self, Int.zero_add, Int.reduceEq, Nat.reduceEqDiff, ho, n1, n2, y1, y2, q1, q2, h77, h78, li, ll, Int.toNat_natCast, z]
    rw [hev, am_up_cm (by omega)] at k
    dsimp only at k
    refine ⟨fun w1 => ⟨by omega, ?_⟩, fun w1 => ⟨by omega, by omega, ?_⟩⟩
    · rw [if_neg w1, mc_v (by omega)] at k
      exact k
    · have e9 : mc (4 + X.2.1) = 10 + X.2.1 := by
        unfold mc
        rw [if_neg (by omega), if_neg (by omega), if_pos (by omega)]
        omega
      rw [if_pos w1, e9] at k
      rw [wr_ok (by omega) (by omega)]
      exact k
  · rw [if_neg (by omega), if_neg (by omega)] at hev
    dsimp only at hev
    obtain ⟨fn, efn⟩ : ∃ fn : Nat, X.2.1 = fn := ⟨X.2.1.toNat, by omega⟩
    rw [efn] at q2 hev
    rw [Int.toNat_natCast] at hev
    have e3 := (hf fn (by omega)).2.2.1
    have hw := hwf.1 _ _ (gd_get fn0 (i := fn) (by omega))
    generalize hF : fns.getD fn fn0 = F at *
    have hbr : F.2.2.1 = 0 ∨ F.2.2.1 = 1 := by have := hw.2.2.1; omega
    obtain ⟨xa, exa⟩ : ∃ xa : Nat, X.2.2.1 = xa := ⟨X.2.2.1.toNat, by omega⟩
    obtain ⟨xb, exb⟩ : ∃ xb : Nat, X.2.2.2 = xb := ⟨X.2.2.2.toNat, by omega⟩
    rw [exa] at q3 hev
    rw [exb] at q4 hev
    have ra := evt_rng (bd := cbd m) (pk := mpk m) hwf l6 (fun x _ => am_and3 _) xa (by omega)
    have rb := evt_rng (bd := cbd m) (pk := mpk m) hwf l6 (fun x _ => am_and3 _) xb (by omega)
    obtain ⟨ia, la⟩ := hh xa (by omega)
    obtain ⟨ib, lb⟩ := hh xb (by omega)
    rcases hbr with br | br
    · rw [br] at e3
      rw [if_pos br, if_pos br, Int.toNat_natCast, Int.toNat_natCast, evp_get t xa (by omega), evp_get t xb (by omega)] at hev
      change mev fns tms t m = if 3 ≤ (mev fns tms xa m).1 then ((mev fns tms xa m).1, am_or (am_shl 1 t) (mev fns tms xa m).2) else tw2 F (mev fns tms xa m).1 (mpk m t) t (am_or (am_shl 1 t) (mev fns tms xa m).2) (mev fns tms xb m) at hev
      change 0 ≤ (mev fns tms xa m).1 ∧ (mev fns tms xa m).1 ≤ 13 at ra
      change 0 ≤ (mev fns tms xb m).1 ∧ (mev fns tms xb m).1 ≤ 13 at rb
      generalize mev fns tms xa m = A at *
      generalize mev fns tms xb m = B at *
      refine en_125 (am_run 400 ?_); simp (disch := omega) only [ow_125, rt_125, rn_125_0, rn_125_1, rn_125_4, rn_125_5, rn_125_6, rn_125_7, rn_125_8, rn_125_9, rn_125_10, rn_125_13, rn_125_14, rn_125_15, rn_125_18, rn_125_19, rn_125_22, rn_125_23, rn_125_24, rn_125_27, rn_125_28, rn_125_29, rn_125_30, rn_125_31, rn_125_32, rn_125_35, rn_125_36, rn_125_37, rn_125_38, rn_125_41, rn_125_42, rn_125_43, rn_125_46, rn_125_47, rn_125_48, rn_125_51, rn_125_52, rn_125_53, rn_125_56, rn_125_57, rn_125_58, rn_125_59, rn_125_62, rn_125_64, rn_125_65, rn_125_68, rn_125_69, rn_125_70, rn_125_71, rn_125_74, rn_125_75, rn_125_76, rn_125_77, rn_125_78, rn_125_81, rn_125_82, rn_125_83, rn_125_84, rn_125_85, rn_125_88, rn_125_89, rn_125_90, rn_125_93, rn_125_94, rn_125_97, rn_125_98, rn_125_99, rn_125_102, rn_125_103, rn_125_106, rn_125_107, rn_125_108, rn_125_110, rn_125_111, rn_125_114, rn_125_115, rn_125_116, rn_125_119, rn_125_120, rn_125_123, rn_125_124, rn_125_125, rn_125_128, rn_125_129, rn_125_132, rn_125_133, rn_125_134, rn_125_136, rn_125_137, rn_125_140, rn_125_141, rn_125_142, rn_125_143, rn_125_144, rn_125_147, rn_125_149, rn_125_150, rn_125_151, rn_125_152, rn_125_153, rn_125_156, rn_125_157, rn_125_158, rn_125_161, rn_125_163, rn_125_164, rn_125_165, rn_125_166, rn_125_169, rn_125_170, rn_125_171, rn_125_172, rn_125_175, rn_125_176, rn_125_177, rn_125_178, rn_125_179, rn_125_180, rn_125_181, rn_125_184, rn_125_186, rn_125_187, rn_125_188, rn_125_190, rn_125_191, rn_125_194, s_aload_n_0, s_gf, am_gfq_e, am_nth_0, am_nth_s, fl_7_67, s_iload_n_1, s_iconst_1, s_ishl, s_iast, am_iwq_e, fl_7_34, s_iald, am_iaq_e, s_if1_ne, jm_15_16, fl_7_64, fl_7_37, s_vrt, am_orq_e, s_if2_ne, jm_38_39, s_iload_n_2, s_ivs, am_isv_1, am_isv_3, am_isv_5, s_acp, am_cpq_e, am_po_s, am_po_n, am_sl_n, am_sl_i, am_sl_r, am_sl_l, ml_7_154, cq_123, s_istore_n_3, am_kil_n, am_kil_i, am_kil_r, am_kil_l, s_iload_n_3, s_iconst_3, jm_59_15, s_bipush_10, s_iadd, s_goto, jm_71_4, fl_7_25, jm_90_12, fl_7_40, jm_99_9, fl_7_43, s_istore_4, jm_116_12, jm_125_9, s_istore_5, s_dup2, s_iload_4, s_ior, s_if2_ge, jm_172_22, s_imul, s_iload_5, s_ivv, am_ivq_e, am_cvq_e, ml_7_158, cq_126, Int.le_refl, am_c3, am_c4, am_c6, am_c7, am_c8, am_c9, am_c27, am_c60, am_c240, am_c418, am_c3500, am_up_s, am_up_n, am_uu, ne_eq, Nat.reduceAdd, Int.reduceAdd, Int.reduceNeg, Int.reduceLE, Int.reduceToNat, true_and, and_true, List.length_cons, List.length_nil, Nat.reduceLeDiff, Nat.zero_add, Nat.add_zero, Nat.le_refl, true_or, or_true, reduceCtorEq, false_implies, implies_true, true_implies, not_true_eq_false, not_false_eq_true, eq_self, Int.zero_add, Int.reduceEq, Nat.reduceEqDiff, ho, m3, n1, n2, n3, n4, x3, y1, y2, y3, y4, q1, q2, q3, q4, e3, h77, h78, li, ll, Int.toNat_natCast, z, gd_ss, gd_sn, List.length_set, List.set_set, ia, ib, la, lb]
      refine ⟨by omega, by omega, by omega, by omega, by omega, by omega, by omega, by omega, by omega, by omega, by omega, by omega, by omega, by omega, fun w1 => ?_, fun w1 => ⟨by omega, ?_⟩⟩
      · have a3 : 3 ≤ A.1 := by have := mc_lt (o := A.1) (by omega); omega
        rw [hev, if_pos a3, am_up_cm (by omega)] at k
        exact k
      · have a3 : A.1 < 3 := by have := mc_lt (o := A.1) (by omega); omega
        rw [hev, if_neg (by omega)] at k
        rw [mc_v a3, wr_ok (x := 3 * (fn : Int)) (by omega) (by omega), wr_ok (by omega) (by omega)]
        refine sp_findTwig (h := am_up (am_up h 78 (aC (lk.set t (am_or (am_shl 1 t) A.2)))) 77 (aC (is.set t A.1))) (f := fn) (v := A.1) (B := B) (L := am_or (am_shl 1 t) A.2) (is := is.set t A.1) (lk := lk.set t (am_or (am_shl 1 t) A.2)) (by rw [am_up_n (by omega), am_up_n (by omega)]; exact ho) (hM.frame (fun q _ _ => by rw [am_up_n (by omega), am_up_n (by omega)])) hwf l3 (by omega) (by omega) (by omega) (by omega) am_up_s (by rw [am_up_n (by omega), am_up_s]) (by simpa using li) (by simpa using ll) (by rw [gd_sn (by omega)]; exact ib) (by rw [gd_sn (by omega)]; exact lb) (by omega) (gd_ss (by omega)) hp ?_
        refine am_run 400 ?_; simp (disch := omega) only [ow_125, rt_125, rn_125_0, rn_125_1, rn_125_4, rn_125_5, rn_125_6, rn_125_7, rn_125_8, rn_125_9, rn_125_10, rn_125_13, rn_125_14, rn_125_15, rn_125_18, rn_125_19, rn_125_22, rn_125_23, rn_125_24, rn_125_27, rn_125_28, rn_125_29, rn_125_30, rn_125_31, rn_125_32, rn_125_35, rn_125_36, rn_125_37, rn_125_38, rn_125_41, rn_125_42, rn_125_43, rn_125_46, rn_125_47, rn_125_48, rn_125_51, rn_125_52, rn_125_53, rn_125_56, rn_125_57, rn_125_58, rn_125_59, rn_125_62, rn_125_64, rn_125_65, rn_125_68, rn_125_69, rn_125_70, rn_125_71, rn_125_74, rn_125_75, rn_125_76, rn_125_77, rn_125_78, rn_125_81, rn_125_82, rn_125_83, rn_125_84, rn_125_85, rn_125_88, rn_125_89, rn_125_90, rn_125_93, rn_125_94, rn_125_97, rn_125_98, rn_125_99, rn_125_102, rn_125_103, rn_125_106, rn_125_107, rn_125_108, rn_125_110, rn_125_111, rn_125_114, rn_125_115, rn_125_116, rn_125_119, rn_125_120, rn_125_123, rn_125_124, rn_125_125, rn_125_128, rn_125_129, rn_125_132, rn_125_133, rn_125_134, rn_125_136, rn_125_137, rn_125_140, rn_125_141, rn_125_142, rn_125_143, rn_125_144, rn_125_147, rn_125_149, rn_125_150, rn_125_151, rn_125_152, rn_125_153, rn_125_156, rn_125_157, rn_125_158, rn_125_161, rn_125_163, rn_125_164, rn_125_165, rn_125_166, rn_125_169, rn_125_170, rn_125_171, rn_125_172, rn_125_175, rn_125_176, rn_125_177, rn_125_178, rn_125_179, rn_125_180, rn_125_181, rn_125_184, rn_125_186, rn_125_187, rn_125_188, rn_125_190, rn_125_191, rn_125_194, s_aload_n_0, s_gf, am_gfq_e, am_nth_0, am_nth_s, fl_7_67, s_iload_n_1, s_iconst_1, s_ishl, s_iast, am_iwq_e, fl_7_34, s_iald, am_iaq_e, s_if1_ne, jm_15_16, fl_7_64, fl_7_37, s_vrt, am_orq_e, s_if2_ne, jm_38_39, s_iload_n_2, s_ivs, am_isv_1, am_isv_3, am_isv_5, s_acp, am_cpq_e, am_po_s, am_po_n, am_sl_n, am_sl_i, am_sl_r, am_sl_l, ml_7_154, cq_123, s_istore_n_3, am_kil_n, am_kil_i, am_kil_r, am_kil_l, s_iload_n_3, s_iconst_3, jm_59_15, s_bipush_10, s_iadd, s_goto, jm_71_4, fl_7_25, jm_90_12, fl_7_40, jm_99_9, fl_7_43, s_istore_4, jm_116_12, jm_125_9, s_istore_5, s_dup2, s_iload_4, s_ior, s_if2_ge, jm_172_22, s_imul, s_iload_5, s_ivv, am_ivq_e, am_cvq_e, ml_7_158, cq_126, Int.le_refl, am_c3, am_c4, am_c6, am_c7, am_c8, am_c9, am_c27, am_c60, am_c240, am_c418, am_c3500, am_up_s, am_up_n, am_uu, ne_eq, Nat.reduceAdd, Int.reduceAdd, Int.reduceNeg, Int.reduceLE, Int.reduceToNat, true_and, and_true, List.length_cons, List.length_nil, Nat.reduceLeDiff, Nat.zero_add, Nat.add_zero, Nat.le_refl, true_or, or_true, reduceCtorEq, false_implies, implies_true, true_implies, not_true_eq_false, not_false_eq_true, eq_self, Int.zero_add, Int.reduceEq, Nat.reduceEqDiff]
        rw [am_up_cm (r := 78) (q := 77) (by omega), am_uu, List.set_set, List.set_set, hF]
        exact k
    · rw [br] at e3
      have br0 : ¬ F.2.2.1 = 0 := by omega
      rw [if_neg br0, if_neg br0, Int.toNat_natCast, Int.toNat_natCast, evp_get t xa (by omega), evp_get t xb (by omega)] at hev
      change mev fns tms t m = if 3 ≤ (mev fns tms xb m).1 then ((mev fns tms xb m).1, am_or (am_shl 1 t) (mev fns tms xb m).2) else tw2 F (mev fns tms xb m).1 (mpk m t) t (am_or (am_shl 1 t) (mev fns tms xb m).2) (mev fns tms xa m) at hev
      change 0 ≤ (mev fns tms xa m).1 ∧ (mev fns tms xa m).1 ≤ 13 at ra
      change 0 ≤ (mev fns tms xb m).1 ∧ (mev fns tms xb m).1 ≤ 13 at rb
      generalize mev fns tms xb m = A at *
      generalize mev fns tms xa m = B at *
      refine en_125 (am_run 400 ?_); simp (disch := omega) only [ow_125, rt_125, rn_125_0, rn_125_1, rn_125_4, rn_125_5, rn_125_6, rn_125_7, rn_125_8, rn_125_9, rn_125_10, rn_125_13, rn_125_14, rn_125_15, rn_125_18, rn_125_19, rn_125_22, rn_125_23, rn_125_24, rn_125_27, rn_125_28, rn_125_29, rn_125_30, rn_125_31, rn_125_32, rn_125_35, rn_125_36, rn_125_37, rn_125_38, rn_125_41, rn_125_42, rn_125_43, rn_125_46, rn_125_47, rn_125_48, rn_125_51, rn_125_52, rn_125_53, rn_125_56, rn_125_57, rn_125_58, rn_125_59, rn_125_62, rn_125_64, rn_125_65, rn_125_68, rn_125_69, rn_125_70, rn_125_71, rn_125_74, rn_125_75, rn_125_76, rn_125_77, rn_125_78, rn_125_81, rn_125_82, rn_125_83, rn_125_84, rn_125_85, rn_125_88, rn_125_89, rn_125_90, rn_125_93, rn_125_94, rn_125_97, rn_125_98, rn_125_99, rn_125_102, rn_125_103, rn_125_106, rn_125_107, rn_125_108, rn_125_110, rn_125_111, rn_125_114, rn_125_115, rn_125_116, rn_125_119, rn_125_120, rn_125_123, rn_125_124, rn_125_125, rn_125_128, rn_125_129, rn_125_132, rn_125_133, rn_125_134, rn_125_136, rn_125_137, rn_125_140, rn_125_141, rn_125_142, rn_125_143, rn_125_144, rn_125_147, rn_125_149, rn_125_150, rn_125_151, rn_125_152, rn_125_153, rn_125_156, rn_125_157, rn_125_158, rn_125_161, rn_125_163, rn_125_164, rn_125_165, rn_125_166, rn_125_169, rn_125_170, rn_125_171, rn_125_172, rn_125_175, rn_125_176, rn_125_177, rn_125_178, rn_125_179, rn_125_180, rn_125_181, rn_125_184, rn_125_186, rn_125_187, rn_125_188, rn_125_190, rn_125_191, rn_125_194, s_aload_n_0, s_gf, am_gfq_e, am_nth_0, am_nth_s, fl_7_67, s_iload_n_1, s_iconst_1, s_ishl, s_iast, am_iwq_e, fl_7_34, s_iald, am_iaq_e, s_if1_ne, jm_15_16, fl_7_64, fl_7_37, s_vrt, am_orq_e, s_if2_ne, jm_38_39, s_iload_n_2, s_ivs, am_isv_1, am_isv_3, am_isv_5, s_acp, am_cpq_e, am_po_s, am_po_n, am_sl_n, am_sl_i, am_sl_r, am_sl_l, ml_7_154, cq_123, s_istore_n_3, am_kil_n, am_kil_i, am_kil_r, am_kil_l, s_iload_n_3, s_iconst_3, jm_59_15, s_bipush_10, s_iadd, s_goto, jm_71_4, fl_7_25, jm_90_12, fl_7_40, jm_99_9, fl_7_43, s_istore_4, jm_116_12, jm_125_9, s_istore_5, s_dup2, s_iload_4, s_ior, s_if2_ge, jm_172_22, s_imul, s_iload_5, s_ivv, am_ivq_e, am_cvq_e, ml_7_158, cq_126, Int.le_refl, am_c3, am_c4, am_c6, am_c7, am_c8, am_c9, am_c27, am_c60, am_c240, am_c418, am_c3500, am_up_s, am_up_n, am_uu, ne_eq, Nat.reduceAdd, Int.reduceAdd, Int.reduceNeg, Int.reduceLE, Int.reduceToNat, true_and, and_true, List.length_cons, List.length_nil, Nat.reduceLeDiff, Nat.zero_add, Nat.add_zero, Nat.le_refl, true_or, or_true, reduceCtorEq, false_implies, implies_true, true_implies, not_true_eq_false, not_false_eq_true, eq_self, Int.zero_add, Int.reduceEq, Nat.reduceEqDiff, ho, m3, n1, n2, n3, n4, x3, y1, y2, y3, y4, q1, q2, q3, q4, e3, h77, h78, li, ll, Int.toNat_natCast, z, gd_ss, gd_sn, List.length_set, List.set_set, ia, ib, la, lb]
      refine ⟨by omega, by omega, by omega, by omega, by omega, by omega, by omega, by omega, by omega, by omega, by omega, by omega, by omega, by omega, fun w1 => ?_, fun w1 => ⟨by omega, ?_⟩⟩
      · have a3 : 3 ≤ A.1 := by have := mc_lt (o := A.1) (by omega); omega
        rw [hev, if_pos a3, am_up_cm (by omega)] at k
        exact k
      · have a3 : A.1 < 3 := by have := mc_lt (o := A.1) (by omega); omega
        rw [hev, if_neg (by omega)] at k
        rw [mc_v a3, wr_ok (x := 3 * (fn : Int)) (by omega) (by omega), wr_ok (by omega) (by omega)]
        refine sp_findTwig (h := am_up (am_up h 78 (aC (lk.set t (am_or (am_shl 1 t) A.2)))) 77 (aC (is.set t A.1))) (f := fn) (v := A.1) (B := B) (L := am_or (am_shl 1 t) A.2) (is := is.set t A.1) (lk := lk.set t (am_or (am_shl 1 t) A.2)) (by rw [am_up_n (by omega), am_up_n (by omega)]; exact ho) (hM.frame (fun q _ _ => by rw [am_up_n (by omega), am_up_n (by omega)])) hwf l3 (by omega) (by omega) (by omega) (by omega) am_up_s (by rw [am_up_n (by omega), am_up_s]) (by simpa using li) (by simpa using ll) (by rw [gd_sn (by omega)]; exact ia) (by rw [gd_sn (by omega)]; exact la) (by omega) (gd_ss (by omega)) hp ?_
        refine am_run 400 ?_; simp (disch := omega) only [ow_125, rt_125, rn_125_0, rn_125_1, rn_125_4, rn_125_5, rn_125_6, rn_125_7, rn_125_8, rn_125_9, rn_125_10, rn_125_13, rn_125_14, rn_125_15, rn_125_18, rn_125_19, rn_125_22, rn_125_23, rn_125_24, rn_125_27, rn_125_28, rn_125_29, rn_125_30, rn_125_31, rn_125_32, rn_125_35, rn_125_36, rn_125_37, rn_125_38, rn_125_41, rn_125_42, rn_125_43, rn_125_46, rn_125_47, rn_125_48, rn_125_51, rn_125_52, rn_125_53, rn_125_56, rn_125_57, rn_125_58, rn_125_59, rn_125_62, rn_125_64, rn_125_65, rn_125_68, rn_125_69, rn_125_70, rn_125_71, rn_125_74, rn_125_75, rn_125_76, rn_125_77, rn_125_78, rn_125_81, rn_125_82, rn_125_83, rn_125_84, rn_125_85, rn_125_88, rn_125_89, rn_125_90, rn_125_93, rn_125_94, rn_125_97, rn_125_98, rn_125_99, rn_125_102, rn_125_103, rn_125_106, rn_125_107, rn_125_108, rn_125_110, rn_125_111, rn_125_114, rn_125_115, rn_125_116, rn_125_119, rn_125_120, rn_125_123, rn_125_124, rn_125_125, rn_125_128, rn_125_129, rn_125_132, rn_125_133, rn_125_134, rn_125_136, rn_125_137, rn_125_140, rn_125_141, rn_125_142, rn_125_143, rn_125_144, rn_125_147, rn_125_149, rn_125_150, rn_125_151, rn_125_152, rn_125_153, rn_125_156, rn_125_157, rn_125_158, rn_125_161, rn_125_163, rn_125_164, rn_125_165, rn_125_166, rn_125_169, rn_125_170, rn_125_171, rn_125_172, rn_125_175, rn_125_176, rn_125_177, rn_125_178, rn_125_179, rn_125_180, rn_125_181, rn_125_184, rn_125_186, rn_125_187, rn_125_188, rn_125_190, rn_125_191, rn_125_194, s_aload_n_0, s_gf, am_gfq_e, am_nth_0, am_nth_s, fl_7_67, s_iload_n_1, s_iconst_1, s_ishl, s_iast, am_iwq_e, fl_7_34, s_iald, am_iaq_e, s_if1_ne, jm_15_16, fl_7_64, fl_7_37, s_vrt, am_orq_e, s_if2_ne, jm_38_39, s_iload_n_2, s_ivs, am_isv_1, am_isv_3, am_isv_5, s_acp, am_cpq_e, am_po_s, am_po_n, am_sl_n, am_sl_i, am_sl_r, am_sl_l, ml_7_154, cq_123, s_istore_n_3, am_kil_n, am_kil_i, am_kil_r, am_kil_l, s_iload_n_3, s_iconst_3, jm_59_15, s_bipush_10, s_iadd, s_goto, jm_71_4, fl_7_25, jm_90_12, fl_7_40, jm_99_9, fl_7_43, s_istore_4, jm_116_12, jm_125_9, s_istore_5, s_dup2, s_iload_4, s_ior, s_if2_ge, jm_172_22, s_imul, s_iload_5, s_ivv, am_ivq_e, am_cvq_e, ml_7_158, cq_126, Int.le_refl, am_c3, am_c4, am_c6, am_c7, am_c8, am_c9, am_c27, am_c60, am_c240, am_c418, am_c3500, am_up_s, am_up_n, am_uu, ne_eq, Nat.reduceAdd, Int.reduceAdd, Int.reduceNeg, Int.reduceLE, Int.reduceToNat, true_and, and_true, List.length_cons, List.length_nil, Nat.reduceLeDiff, Nat.zero_add, Nat.add_zero, Nat.le_refl, true_or, or_true, reduceCtorEq, false_implies, implies_true, true_implies, not_true_eq_false, not_false_eq_true, eq_self, Int.zero_add, Int.reduceEq, Nat.reduceEqDiff]
        rw [am_up_cm (r := 78) (q := 77) (by omega), am_uu, List.set_set, List.set_set, hF]
        exact k
end
