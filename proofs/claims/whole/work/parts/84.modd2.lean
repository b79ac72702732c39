/-! ODDS 3: the next throw -/
def ug (gs : List Int) (x : Nat) : Int × Int := if gs.getD x 0 = 3 then (0, 2) else (gs.getD x 0, gs.getD x 0)
def Rg (gs : List Int) (T : Nat) : List (Int × Int) := ug gs 0 :: ug gs 1 :: ug gs 2 :: List.replicate T (1, 2)
def okD : List (Int × Int) → List Int → Prop
  | [], [] => True
  | r :: R, d :: ds => (r.1 ≤ d ∧ d ≤ r.2) ∧ okD R ds
  | _, _ => False
theorem enm_ok : ∀ {R : List (Int × Int)} {i : Nat}, VR R → okD R (enm R i)
  | [], _, _ => trivial
  | r :: R, i, a => by
    refine ⟨?_, enm_ok a.c⟩
    rcases wd_cs a with ⟨e, e2⟩ | ⟨e, e2⟩ | ⟨e, e2⟩ <;> rw [e] <;> omega
theorem ug_ok {gs : List Int} (hg : GS gs) {x : Nat} (hx : x < 3) : (0 ≤ (ug gs x).1 ∧ (ug gs x).2 ≤ 3) ∧ ((ug gs x).2 = (ug gs x).1 ∨ (ug gs x).2 = (ug gs x).1 + 1 ∨ (ug gs x).2 = (ug gs x).1 + 2) := by
  have := hg x hx
  unfold ug
  split
  · exact ⟨⟨by decide, by decide⟩, Or.inr (Or.inr rfl)⟩
  · exact ⟨this, Or.inl rfl⟩
theorem Rg_VR {gs : List Int} (hg : GS gs) (T : Nat) : VR (Rg gs T) := by
  intro r hr
  unfold Rg at hr
  rcases List.mem_cons.mp hr with q | hr
  · rw [q]; exact ug_ok hg (by omega)
  · rcases List.mem_cons.mp hr with q | hr
    · rw [q]; exact ug_ok hg (by omega)
    · rcases List.mem_cons.mp hr with q | hr
      · rw [q]; exact ug_ok hg (by omega)
      · rw [(List.mem_replicate.mp hr).2]
        exact ⟨⟨by decide, by decide⟩, Or.inr (Or.inl rfl)⟩
theorem cod_inc {A B : List Int} {d e : Int} : cod (A ++ (d + e) :: B) = cod (A ++ d :: B) + e * 4 ^ A.length := by
  rw [cod_app, cod_app]
  show cod A + 4 ^ A.length * (d + e + 4 * cod B) = cod A + 4 ^ A.length * (d + 4 * cod B) + e * 4 ^ A.length
  rw [show d + e + 4 * cod B = (d + 4 * cod B) + e by omega, Int.mul_add (4 ^ A.length) (d + 4 * cod B) e, Int.mul_comm e]
  omega
def odv (A : List Int) (o : Option (List Int)) : Int := match o with
  | none => -9
  | some z => cod (A ++ z)
theorem odv_map {A : List Int} {d : Int} {o : Option (List Int)} : odv A (o.map (fun z => d :: z)) = odv (A ++ [d]) o := by
  cases o with
  | none => rfl
  | some z => show cod (A ++ d :: z) = cod (A ++ [d] ++ z); rw [List.append_assoc]; rfl
theorem DG_mid {A B : List Int} {d e : Int} (a : DG (A ++ d :: B)) (he : 0 ≤ e ∧ e ≤ 3) : DG (A ++ e :: B) := a.l.app (fun x hx => by
    rcases List.mem_cons.mp hx with q | q
    · rw [q]; exact he
    · exact a.r x (List.mem_cons_of_mem _ q))
section
variable {d n : Nat} {h : am_H} {K : am_K} {ft tr fc pt rf st an vs lp wa ws wt wv wl rc : Int} {gs : List Int}
theorem lp_ns2 {T : Nat} {s : Int} (hT : T ≤ 6) (ho : h 58 = mO ft tr fc T pt rf st an vs lp wa ws wt wv wl rc) :
    ∀ (kk t : Nat) (pre rest : List Int) (z4 : Option am_V), t + kk = T → pre.length = 3 + t → okD (List.replicate kk (1, 2)) rest → DG (pre ++ rest) → K (some (iV (odv pre (od (List.replicate kk (1, 2)) rest)))) n h → am_W 149 n (am_M (d + 1)) K 54 [some (rV 58), some (iV s), some (iV (cod (pre ++ rest))), some (iV t), z4] [] n h := by
  intro kk
  induction kk with
  | zero =>
    intro t pre rest z4 ht hp hk dg k
    obtain rfl : t = T := by omega
    refine am_W.less (al := [some (rV 58), some (iV s), some (iV (cod (pre ++ rest))), some (iV t), none]) ⟨rfl, rfl, rfl, rfl, trivial⟩ ?_
    refine am_runH 400 ?_; simp (disch := omega) only [ow_149, rt_149, rn_149_54, rf_149_54, rn_149_55, rn_149_56, rn_149_59, rn_149_62, rn_149_63, rn_149_64, rn_149_65, rn_149_66, rn_149_67, rn_149_69, rn_149_70, rn_149_71, rn_149_74, rn_149_75, rn_149_78, rn_149_79, rn_149_80, rn_149_82, rn_149_83, rn_149_84, rn_149_85, rn_149_86, rn_149_87, rn_149_89, rn_149_90, rn_149_91, rn_149_92, rn_149_95, rn_149_98, rn_149_100, s_iload_n_3, s_aload_n_0, s_gf, am_gfq_e, am_nth_0, am_nth_s, fl_7_98, s_if2_ge, jm_59_39, s_iconst_2, s_iconst_3, s_iadd, s_imul, s_istore_4, am_kil_n, am_kil_i, am_kil_r, am_kil_l, s_iload_n_2, s_ivs, am_isv_1, am_isv_3, am_isv_5, s_acp, am_cpq_e, am_po_s, am_po_n, am_sl_n, am_sl_i, am_sl_r, am_sl_l, ml_7_162, cq_124, s_iconst_1, s_if2_ne, jm_75_10, s_iload_4, s_ishl, s_irt, am_irq_1, am_irq_2, s_isub, s_istore_n_2, s_iinc_3, s_goto, jm_95_m41, s_bipush_m9, Int.le_refl, am_c3, am_c4, am_c6, am_c7, am_c8, am_c9, am_c27, am_c60, am_c240, am_c418, am_c3500, am_up_s, am_up_n, am_uu, ne_eq, Nat.reduceAdd, Int.reduceAdd, Int.reduceNeg, Int.reduceLE, Int.reduceToNat, true_and, and_true, List.length_cons, List.length_nil, Nat.reduceLeDiff, Nat.zero_add, Nat.add_zero, Nat.le_refl, true_or, or_true, reduceCtorEq, false_implies, implies_true, true_implies, not_true_eq_false, not_false_eq_true, eq_self, Int.zero_add, Int.reduceEq, Nat.reduceEqDiff, ho]
    exact k
  | succ kk ih =>
    intro t pre rest z4 ht hp hk dg k
    refine am_W.less (al := [some (rV 58), some (iV s), some (iV (cod (pre ++ rest))), some (iV t), none]) ⟨rfl, rfl, rfl, rfl, trivial⟩ ?_
    match rest, hk with
    | d0 :: rest, hk =>
      obtain ⟨hd, hk⟩ := hk
      have hd : 1 ≤ d0 ∧ d0 ≤ 2 := hd
      have lr : ∀ {k : Nat} {r : List Int}, okD (List.replicate k (1, 2)) r → r.length = k := by
        intro k
        induction k with
        | zero => intro r hr; cases r with | nil => rfl | cons a b => exact hr.elim
        | succ k ihk => intro r hr; cases r with | nil => exact hr.elim | cons a b => show b.length + 1 = k + 1; rw [ihk hr.2]
      have l1 := lr hk
      have em : mpk (cod (pre ++ d0 :: rest)) t = d0 := by rw [mpk_cod dg (by omega), gd_mid, if_pos (by omega)]
      have es : am_shl 1 (2 * (3 + (t : Int))) = 4 ^ pre.length := by
        have := shl_4 ⟨3 + t, by omega⟩
        dsimp only at this
        rw [hp, ← this]
        rfl
      have hr9 : (pre ++ d0 :: rest).length ≤ 9 := by simp; omega
      have ci := cod_in dg hr9
      refine am_runH 400 ?_; simp (disch := omega) only [ow_149, rt_149, rn_149_54, rf_149_54, rn_149_55, rn_149_56, rn_149_59, rn_149_62, rn_149_63, rn_149_64, rn_149_65, rn_149_66, rn_149_67, rn_149_69, rn_149_70, rn_149_71, rn_149_74, rn_149_75, rn_149_78, rn_149_79, rn_149_80, rn_149_82, rn_149_83, rn_149_84, rn_149_85, rn_149_86, rn_149_87, rn_149_89, rn_149_90, rn_149_91, rn_149_92, rn_149_95, rn_149_98, rn_149_100, s_iload_n_3, s_aload_n_0, s_gf, am_gfq_e, am_nth_0, am_nth_s, fl_7_98, s_if2_ge, jm_59_39, s_iconst_2, s_iconst_3, s_iadd, s_imul, s_istore_4, am_kil_n, am_kil_i, am_kil_r, am_kil_l, s_iload_n_2, s_ivs, am_isv_1, am_isv_3, am_isv_5, s_acp, am_cpq_e, am_po_s, am_po_n, am_sl_n, am_sl_i, am_sl_r, am_sl_l, ml_7_162, cq_124, s_iconst_1, s_if2_ne, jm_75_10, s_iload_4, s_ishl, s_irt, am_irq_1, am_irq_2, s_isub, s_istore_n_2, s_iinc_3, s_goto, jm_95_m41, s_bipush_m9, Int.le_refl, am_c3, am_c4, am_c6, am_c7, am_c8, am_c9, am_c27, am_c60, am_c240, am_c418, am_c3500, am_up_s, am_up_n, am_uu, ne_eq, Nat.reduceAdd, Int.reduceAdd, Int.reduceNeg, Int.reduceLE, Int.reduceToNat, true_and, and_true, List.length_cons, List.length_nil, Nat.reduceLeDiff, Nat.zero_add, Nat.add_zero, Nat.le_refl, true_or, or_true, reduceCtorEq, false_implies, implies_true, true_implies, not_true_eq_false, not_false_eq_true, eq_self, Int.zero_add, Int.reduceEq, Nat.reduceEqDiff, ho, wr_ok]
      refine ⟨fun z => by omega, fun _ => ?_⟩
      refine sp_pickedIn ?_
      rw [em]
      refine am_run 400 ?_; simp (disch := omega) only [ow_149, rt_149, rn_149_54, rf_149_54, rn_149_55, rn_149_56, rn_149_59, rn_149_62, rn_149_63, rn_149_64, rn_149_65, rn_149_66, rn_149_67, rn_149_69, rn_149_70, rn_149_71, rn_149_74, rn_149_75, rn_149_78, rn_149_79, rn_149_80, rn_149_82, rn_149_83, rn_149_84, rn_149_85, rn_149_86, rn_149_87, rn_149_89, rn_149_90, rn_149_91, rn_149_92, rn_149_95, rn_149_98, rn_149_100, s_iload_n_3, s_aload_n_0, s_gf, am_gfq_e, am_nth_0, am_nth_s, fl_7_98, s_if2_ge, jm_59_39, s_iconst_2, s_iconst_3, s_iadd, s_imul, s_istore_4, am_kil_n, am_kil_i, am_kil_r, am_kil_l, s_iload_n_2, s_ivs, am_isv_1, am_isv_3, am_isv_5, s_acp, am_cpq_e, am_po_s, am_po_n, am_sl_n, am_sl_i, am_sl_r, am_sl_l, ml_7_162, cq_124, s_iconst_1, s_if2_ne, jm_75_10, s_iload_4, s_ishl, s_irt, am_irq_1, am_irq_2, s_isub, s_istore_n_2, s_iinc_3, s_goto, jm_95_m41, s_bipush_m9, Int.le_refl, am_c3, am_c4, am_c6, am_c7, am_c8, am_c9, am_c27, am_c60, am_c240, am_c418, am_c3500, am_up_s, am_up_n, am_uu, ne_eq, Nat.reduceAdd, Int.reduceAdd, Int.reduceNeg, Int.reduceLE, Int.reduceToNat, true_and, and_true, List.length_cons, List.length_nil, Nat.reduceLeDiff, Nat.zero_add, Nat.add_zero, Nat.le_refl, true_or, or_true, reduceCtorEq, false_implies, implies_true, true_implies, not_true_eq_false, not_false_eq_true, eq_self, Int.zero_add, Int.reduceEq, Nat.reduceEqDiff, wr_ok, am_i1, es]
      refine ⟨fun z => ?_, fun z => ?_⟩
      · obtain rfl : d0 = 2 := by omega
        have k : K (some (iV (odv pre ((od (List.replicate kk (1, 2)) rest).map (fun z => 1 :: z))))) n h := k
        rw [odv_map] at k
        have dg2 := DG_mid (e := 1) dg (by omega)
        have c2 := cod_in dg2 (by simpa using hr9)
        have ec : cod (pre ++ 2 :: rest) - 4 ^ pre.length = cod (pre ++ 1 :: rest) := by
          have := cod_inc (A := pre) (B := rest) (d := 2) (e := -1)
          rw [show (2 : Int) + -1 = 1 from rfl] at this
          omega
        rw [ec, wr_id c2, show pre ++ 1 :: rest = (pre ++ [1]) ++ rest by simp, ← ci1]
        exact ih (t + 1) (pre ++ [1]) rest _ (by omega) (by simp; omega) hk (by rw [List.append_assoc]; exact dg2) k
      · subst z
        have k : K (some (iV (cod (pre ++ 2 :: rest)))) n h := k
        have dg2 := DG_mid (e := 2) dg (by omega)
        have c2 := cod_in dg2 (by simpa using hr9)
        have ec : cod (pre ++ 1 :: rest) + 4 ^ pre.length = cod (pre ++ 2 :: rest) := by
          have := cod_inc (A := pre) (B := rest) (d := 1) (e := 1)
          rw [show (1 : Int) + 1 = 2 from rfl] at this
          omega
        rw [ec, wr_id c2]
        exact k
theorem okD_len : ∀ {R : List (Int × Int)} {ds : List Int}, okD R ds → ds.length = R.length
  | [], [], _ => rfl
  | r :: R, e :: ds, hk => by show ds.length + 1 = R.length + 1; rw [okD_len hk.2]
  | [], _ :: _, hk => hk.elim
  | _ :: _, [], hk => hk.elim
theorem lp_ns1 {T : Nat} {s : Int} (hg : GS gs) (lg : gs.length = 3) (hT : T ≤ 6) (ho : h 58 = mO ft tr fc T pt rf st an vs lp wa ws wt wv wl rc) (h71 : h 71 = aC gs) :
    ∀ (kk x : Nat) (pre rest : List Int), x + kk = 3 → pre.length = x → okD ((Rg gs T).drop x) rest → DG (pre ++ rest) → K (some (iV (odv pre (od ((Rg gs T).drop x) rest)))) n h → am_W 149 n (am_M (d + 1)) K 4 [some (rV 58), some (iV s), some (iV (cod (pre ++ rest))), some (iV x), none] [] n h := by
  intro kk
  induction kk with
  | zero =>
    intro x pre rest hx hp hk dg k
    obtain rfl : x = 3 := by omega
    refine am_runH 400 ?_; simp (disch := omega) only [ow_149, rt_149, rn_149_4, rf_149_4, rn_149_5, rn_149_6, rn_149_9, rn_149_10, rn_149_13, rn_149_14, rn_149_15, rn_149_16, rn_149_19, rn_149_20, rn_149_21, rn_149_24, rn_149_25, rn_149_28, rn_149_29, rn_149_30, rn_149_31, rn_149_32, rn_149_33, rn_149_34, rn_149_35, rn_149_36, rn_149_37, rn_149_38, rn_149_39, rn_149_40, rn_149_41, rn_149_42, rn_149_43, rn_149_44, rn_149_45, rn_149_46, rn_149_49, rn_149_52, rn_149_53, rn_149_54, rf_149_54, s_iload_n_3, s_iconst_3, s_if2_ge, jm_6_46, s_aload_n_0, s_gf, am_gfq_e, am_nth_0, am_nth_s, fl_7_46, s_iald, am_iaq_e, s_if2_ne, jm_16_30, s_iload_n_2, s_ivs, am_isv_1, am_isv_3, am_isv_5, s_acp, am_cpq_e, am_po_s, am_po_n, am_sl_n, am_sl_i, am_sl_r, am_sl_l, ml_7_154, cq_123, s_iconst_2, jm_25_11, s_iconst_1, s_imul, s_ishl, s_iadd, s_irt, am_irq_1, am_irq_2, s_iconst_m1, s_ixor, s_iand, s_istore_n_2, am_kil_n, am_kil_i, am_kil_r, am_kil_l, s_iinc_3, s_goto, jm_49_m45, s_iconst_0, s_istore_n_3, Int.le_refl, am_c3, am_c4, am_c6, am_c7, am_c8, am_c9, am_c27, am_c60, am_c240, am_c418, am_c3500, am_up_s, am_up_n, am_uu, ne_eq, Nat.reduceAdd, Int.reduceAdd, Int.reduceNeg, Int.reduceLE, Int.reduceToNat, true_and, and_true, List.length_cons, List.length_nil, Nat.reduceLeDiff, Nat.zero_add, Nat.add_zero, Nat.le_refl, true_or, or_true, reduceCtorEq, false_implies, implies_true, true_implies, not_true_eq_false, not_false_eq_true, eq_self, Int.zero_add, Int.reduceEq, Nat.reduceEqDiff]
    exact lp_ns2 hT ho T 0 pre rest none (by omega) (by omega) hk dg k
  | succ kk ih =>
    intro x pre rest hx hp hk dg k
    have ed : (Rg gs T).drop x = ug gs x :: (Rg gs T).drop (x + 1) := by
      rcases (by omega : x = 0 ∨ x = 1 ∨ x = 2) with q | q | q <;> subst q <;> rfl
    rw [ed] at hk k
    match rest, hk with
    | d0 :: rest, hk =>
      obtain ⟨hd, hk⟩ := hk
      have l1 := okD_len hk
      have l2 : ((Rg gs T).drop (x + 1)).length = T + 3 - (x + 1) := by
        rw [List.length_drop]
        show (List.replicate T ((1 : Int), (2 : Int))).length + 1 + 1 + 1 - (x + 1) = _
        rw [List.length_replicate]
      have eb : st_bound (cod (pre ++ d0 :: rest)) x = d0 := by rw [bound_cod dg (by omega), gd_mid, if_pos hp.symm]
      have hr9 : (pre ++ d0 :: rest).length ≤ 9 := by simp; omega
      have es : am_shl 1 (2 * (x : Int)) = 4 ^ pre.length := by
        have := shl_4 ⟨x, by omega⟩
        dsimp only at this
        rw [hp, ← this]
      have ec := cod_clr dg (by omega) hr9
      rw [hp, wr_ok (by omega) (by omega)] at ec
      refine am_runH 400 ?_; simp (disch := omega) only [ow_149, rt_149, rn_149_4, rf_149_4, rn_149_5, rn_149_6, rn_149_9, rn_149_10, rn_149_13, rn_149_14, rn_149_15, rn_149_16, rn_149_19, rn_149_20, rn_149_21, rn_149_24, rn_149_25, rn_149_28, rn_149_29, rn_149_30, rn_149_31, rn_149_32, rn_149_33, rn_149_34, rn_149_35, rn_149_36, rn_149_37, rn_149_38, rn_149_39, rn_149_40, rn_149_41, rn_149_42, rn_149_43, rn_149_44, rn_149_45, rn_149_46, rn_149_49, rn_149_52, rn_149_53, rn_149_54, rf_149_54, s_iload_n_3, s_iconst_3, s_if2_ge, jm_6_46, s_aload_n_0, s_gf, am_gfq_e, am_nth_0, am_nth_s, fl_7_46, s_iald, am_iaq_e, s_if2_ne, jm_16_30, s_iload_n_2, s_ivs, am_isv_1, am_isv_3, am_isv_5, s_acp, am_cpq_e, am_po_s, am_po_n, am_sl_n, am_sl_i, am_sl_r, am_sl_l, ml_7_154, cq_123, s_iconst_2, jm_25_11, s_iconst_1, s_imul, s_ishl, s_iadd, s_irt, am_irq_1, am_irq_2, s_iconst_m1, s_ixor, s_iand, s_istore_n_2, am_kil_n, am_kil_i, am_kil_r, am_kil_l, s_iinc_3, s_goto, jm_49_m45, s_iconst_0, s_istore_n_3, Int.le_refl, am_c3, am_c4, am_c6, am_c7, am_c8, am_c9, am_c27, am_c60, am_c240, am_c418, am_c3500, am_up_s, am_up_n, am_uu, ne_eq, Nat.reduceAdd, Int.reduceAdd, Int.reduceNeg, Int.reduceLE, Int.reduceToNat, true_and, and_true, List.length_cons, List.length_nil, Nat.reduceLeDiff, Nat.zero_add, Nat.add_zero, Nat.le_refl, true_or, or_true, reduceCtorEq, false_implies, implies_true, true_implies, not_true_eq_false, not_false_eq_true, eq_self, Int.zero_add, Int.reduceEq, Nat.reduceEqDiff, ho, h71, lg, wr_ok, am_i1, es, ec, Int.toNat_natCast]
      refine ⟨fun z => by omega, fun _ => ⟨by omega, fun z => ?_, fun z => ?_⟩⟩
      · have eu : ug gs x = (gs.getD x 0, gs.getD x 0) := by unfold ug; rw [if_neg z]
        rw [eu] at hd k
        have hd : gs.getD x 0 ≤ d0 ∧ d0 ≤ gs.getD x 0 := hd
        have e0 : gs.getD x 0 = d0 := by omega
        have k : K (some (iV (odv pre (if d0 < gs.getD x 0 then some ((d0 + 1) :: rest) else (od ((Rg gs T).drop (x + 1)) rest).map (fun z => gs.getD x 0 :: z))))) n h := k
        rw [if_neg (by omega), e0, odv_map] at k
        have := ih (x + 1) (pre ++ [d0]) rest (by omega) (by simp; exact hp) hk (by rw [List.append_assoc]; exact dg) k
        rw [List.append_assoc] at this
        exact this
      · have eu : ug gs x = (0, 2) := by unfold ug; rw [if_pos z]
        rw [eu] at hd k
        have hd : 0 ≤ d0 ∧ d0 ≤ 2 := hd
        have k : K (some (iV (odv pre (if d0 < 2 then some ((d0 + 1) :: rest) else (od ((Rg gs T).drop (x + 1)) rest).map (fun z => 0 :: z))))) n h := k
        refine sp_boundIn ?_
        rw [eb]
        refine am_run 400 ?_; simp (disch := omega) only [ow_149, rt_149, rn_149_4, rf_149_4, rn_149_5, rn_149_6, rn_149_9, rn_149_10, rn_149_13, rn_149_14, rn_149_15, rn_149_16, rn_149_19, rn_149_20, rn_149_21, rn_149_24, rn_149_25, rn_149_28, rn_149_29, rn_149_30, rn_149_31, rn_149_32, rn_149_33, rn_149_34, rn_149_35, rn_149_36, rn_149_37, rn_149_38, rn_149_39, rn_149_40, rn_149_41, rn_149_42, rn_149_43, rn_149_44, rn_149_45, rn_149_46, rn_149_49, rn_149_52, rn_149_53, rn_149_54, rf_149_54, s_iload_n_3, s_iconst_3, s_if2_ge, jm_6_46, s_aload_n_0, s_gf, am_gfq_e, am_nth_0, am_nth_s, fl_7_46, s_iald, am_iaq_e, s_if2_ne, jm_16_30, s_iload_n_2, s_ivs, am_isv_1, am_isv_3, am_isv_5, s_acp, am_cpq_e, am_po_s, am_po_n, am_sl_n, am_sl_i, am_sl_r, am_sl_l, ml_7_154, cq_123, s_iconst_2, jm_25_11, s_iconst_1, s_imul, s_ishl, s_iadd, s_irt, am_irq_1, am_irq_2, s_iconst_m1, s_ixor, s_iand, s_istore_n_2, am_kil_n, am_kil_i, am_kil_r, am_kil_l, s_iinc_3, s_goto, jm_49_m45, s_iconst_0, s_istore_n_3, Int.le_refl, am_c3, am_c4, am_c6, am_c7, am_c8, am_c9, am_c27, am_c60, am_c240, am_c418, am_c3500, am_up_s, am_up_n, am_uu, ne_eq, Nat.reduceAdd, Int.reduceAdd, Int.reduceNeg, Int.reduceLE, Int.reduceToNat, true_and, and_true, List.length_cons, List.length_nil, Nat.reduceLeDiff, Nat.zero_add, Nat.add_zero, Nat.le_refl, true_or, or_true, reduceCtorEq, false_implies, implies_true, true_implies, not_true_eq_false, not_false_eq_true, eq_self, Int.zero_add, Int.reduceEq, Nat.reduceEqDiff, wr_ok, am_i1, es, ec]
        refine ⟨fun y => ?_, fun y => ?_⟩
        · rw [if_neg (by omega), odv_map] at k
          have dg2 := DG_mid (e := 0) dg (by omega)
          rw [show pre ++ 0 :: rest = (pre ++ [0]) ++ rest by simp, ← ci1]
          exact ih (x + 1) (pre ++ [0]) rest (by omega) (by simp; exact hp) hk (by rw [List.append_assoc]; exact dg2) k
        · rw [if_pos (by omega)] at k
          have k : K (some (iV (cod (pre ++ (d0 + 1) :: rest)))) n h := k
          have dg2 := DG_mid (e := d0 + 1) dg (by omega)
          have c2 := cod_in dg2 (by simpa using hr9)
          rw [cod_inc, Int.one_mul] at k c2
          rw [wr_id c2]
          exact k
theorem sp_nextStand {T : Nat} {ds : List Int} (hg : GS gs) (lg : gs.length = 3) (hT : T ≤ 6) (ho : h 58 = mO ft tr fc T pt rf st an vs lp wa ws wt wv wl rc) (h71 : h 71 = aC gs) (hk : okD (Rg gs T) ds) (dg : DG ds) (k : K (some (iV (odv [] (od (Rg gs T) ds)))) n h) : am_M (d + 2) 149 [rV 58, iV (cod ds)] n h K := by
  refine en_149 (am_run 400 ?_); simp (disch := omega) only [ow_149, rt_149, rn_149_0, rn_149_1, rn_149_2, rn_149_3, rn_149_4, rf_149_4, s_iload_n_1, s_istore_n_2, am_kil_n, am_kil_i, am_kil_r, am_kil_l, s_iconst_0, s_istore_n_3, s_iload_n_3, Int.le_refl, am_c3, am_c4, am_c6, am_c7, am_c8, am_c9, am_c27, am_c60, am_c240, am_c418, am_c3500, am_up_s, am_up_n, am_uu, ne_eq, Nat.reduceAdd, Int.reduceAdd, Int.reduceNeg, Int.reduceLE, Int.reduceToNat, true_and, and_true, List.length_cons, List.length_nil, Nat.reduceLeDiff, Nat.zero_add, Nat.add_zero, Nat.le_refl, true_or, or_true, reduceCtorEq, false_implies, implies_true, true_implies, not_true_eq_false, not_false_eq_true, eq_self, Int.zero_add, Int.reduceEq, Nat.reduceEqDiff]
  exact lp_ns1 hg lg hT ho h71 3 0 [] ds (by omega) rfl hk dg k
theorem lp_gcd {u v w : Int} {g : Nat} (hu : 0 ≤ u ∧ u ≤ 2000) (hv : 0 ≤ v ∧ v ≤ 2000) (hg : 0 < g) (k : K (some (lV (if w = 0 then u / (g : Int) else v / (g : Int)))) n h) :
    ∀ (y x : Nat) (z : Option am_V), x ≤ 2000 → y ≤ 2000 → Nat.gcd x y = g → am_W 148 n (am_M d) K 6 [some (lV u), none, some (lV v), none, some (iV w), some (lV x), none, some (lV y), none, z, none] [] n h := by
  intro y
  induction y using Nat.strongRecOn with
  | _ y ih =>
    intro x z hx hy eg
    refine am_W.less (al := [some (lV u), none, some (lV v), none, some (iV w), some (lV x), none, some (lV y), none, none, none]) ⟨rfl, rfl, rfl, rfl, rfl, trivial⟩ ?_
    have lc : am_lc (y : Int) 0 = 0 ↔ y = 0 := by
      unfold am_lc
      split
      · omega
      · split <;> omega
    have lu : u.tdiv x = u / x := Int.tdiv_eq_ediv_of_nonneg hu.1
    have lv : v.tdiv x = v / x := Int.tdiv_eq_ediv_of_nonneg hv.1
    have bl : ∀ a : Int, 0 ≤ a ∧ a ≤ 2000 → wrL (a / (x : Int)) = a / (x : Int) := fun a ha => by
      have h1 : 0 ≤ a / (x : Int) := Int.ediv_nonneg ha.1 (by omega)
      have h2 : a / (x : Int) ≤ a := Int.ediv_le_self _ ha.1
      exact wrL_id ⟨by omega, by omega⟩
    refine am_runH 400 ?_; simp (disch := omega) only [ow_148, rt_148, rn_148_0, rn_148_1, rn_148_3, rn_148_4, rn_148_6, rf_148_6, rn_148_8, rn_148_9, rn_148_10, rn_148_13, rn_148_15, rn_148_17, rn_148_18, rn_148_20, rn_148_22, rn_148_24, rn_148_26, rn_148_28, rn_148_31, rn_148_33, rn_148_36, rn_148_37, rn_148_39, rn_148_40, rn_148_43, rn_148_44, rn_148_46, rn_148_47, s_lload_n_0, s_lstore_5, am_kil_n, am_kil_i, am_kil_r, am_kil_l, s_lload_n_2, s_lstore_7, s_lload_7, s_lconst_0, s_lcmp, s_if1_eq, jm_10_21, s_lload_5, s_lrem, s_lstore_9, s_lload_9, s_goto, jm_28_m22, s_iload_4, s_if1_ne, jm_33_10, s_ldiv, jm_40_7, s_lrt, am_orq_e, Int.le_refl, am_c3, am_c4, am_c6, am_c7, am_c8, am_c9, am_c27, am_c60, am_c240, am_c418, am_c3500, am_up_s, am_up_n, am_uu, ne_eq, Nat.reduceAdd, Int.reduceAdd, Int.reduceNeg, Int.reduceLE, Int.reduceToNat, true_and, and_true, List.length_cons, List.length_nil, Nat.reduceLeDiff, Nat.zero_add, Nat.add_zero, Nat.le_refl, true_or, or_true, reduceCtorEq, false_implies, implies_true, true_implies, not_true_eq_false, not_false_eq_true, eq_self, Int.zero_add, Int.reduceEq, Nat.reduceEqDiff]
    rw [lu, lv, bl u hu, bl v hv]
    refine ⟨fun q => ?_, fun q => ?_⟩
    · have q := lc.1 q
      subst q
      rw [Nat.gcd_zero_right] at eg
      subst eg
      refine ⟨fun z => ⟨by omega, ?_⟩, fun z => ⟨by omega, ?_⟩⟩
      · rw [if_neg z] at k; exact k
      · rw [if_pos z] at k; exact k
    · have hy0 : 0 < y := by have := fun z => q (lc.2 z); omega
      refine ⟨by omega, ?_⟩
      have em : ((x : Int)).tmod (y : Int) = ((x % y : Nat) : Int) := by rw [Int.tmod_eq_emod_of_nonneg (by omega)]; rfl
      rw [em]
      have hl := Nat.mod_lt x hy0
      exact ih (x % y) hl y _ hy (by omega) (by rw [← eg, Nat.gcd_comm y, ← Nat.gcd_rec, Nat.gcd_comm])
theorem sp_inLeastTerms {u v : Nat} {w : Int} (hu : u ≤ 2000) (hv : 0 < v ∧ v ≤ 2000) (k : K (some (lV (if w = 0 then (u : Int) / (Nat.gcd u v : Int) else (v : Int) / (Nat.gcd u v : Int)))) n h) : am_M (d + 1) 148 [lV u, lV v, iV w] n h K := by
  refine en_148 (am_run 400 ?_); simp (disch := omega) only [ow_148, rt_148, rn_148_0, rn_148_1, rn_148_3, rn_148_4, rn_148_6, rf_148_6, rn_148_8, rn_148_9, rn_148_10, rn_148_13, rn_148_15, rn_148_17, rn_148_18, rn_148_20, rn_148_22, rn_148_24, rn_148_26, rn_148_28, rn_148_31, rn_148_33, rn_148_36, rn_148_37, rn_148_39, rn_148_40, rn_148_43, rn_148_44, rn_148_46, rn_148_47, s_lload_n_0, s_lstore_5, am_kil_n, am_kil_i, am_kil_r, am_kil_l, s_lload_n_2, s_lstore_7, s_lload_7, s_lconst_0, s_lcmp, s_if1_eq, jm_10_21, s_lload_5, s_lrem, s_lstore_9, s_lload_9, s_goto, jm_28_m22, s_iload_4, s_if1_ne, jm_33_10, s_ldiv, jm_40_7, s_lrt, am_orq_e, Int.le_refl, am_c3, am_c4, am_c6, am_c7, am_c8, am_c9, am_c27, am_c60, am_c240, am_c418, am_c3500, am_up_s, am_up_n, am_uu, ne_eq, Nat.reduceAdd, Int.reduceAdd, Int.reduceNeg, Int.reduceLE, Int.reduceToNat, true_and, and_true, List.length_cons, List.length_nil, Nat.reduceLeDiff, Nat.zero_add, Nat.add_zero, Nat.le_refl, true_or, or_true, reduceCtorEq, false_implies, implies_true, true_implies, not_true_eq_false, not_false_eq_true, eq_self, Int.zero_add, Int.reduceEq, Nat.reduceEqDiff]
  exact lp_gcd (by omega) (by omega) (Nat.gcd_pos_of_pos_right _ hv.1) k v u none hu hv.2 rfl
end
