/-! SOUNDNESS 4: cells, calls, returns; the whole -/
theorem sd_fits {t : FieldType} {k : Nat} {v : am_V} (G : sd_T) (hk : am_kd (some t) k = true) (hv : am_fit k v) : narrow t (sd_cv G v) = sd_cv G v ∧ fits t (sd_cv G v) = true := by
  cases t <;> simp only [am_kd, beq_iff_eq] at hk <;> first | (cases hk; done) | skip
  all_goals subst hk
  all_goals rcases v with x | x | r <;> simp only [am_fit] at hv
  all_goals first | (rcases hv with rfl | rfl <;> exact ⟨rfl, rfl⟩) | (cases r <;> exact ⟨rfl, rfl⟩) | exact ⟨rfl, rfl⟩
theorem sd_dflt {t : FieldType} {k : Nat} (G : sd_T) (hk : am_kd (some t) k = true) : defaultValue t = sd_cv G (am_dflt k) := by
  cases t <;> simp only [am_kd, beq_iff_eq] at hk <;> first | (cases hk; done) | (subst hk; rfl)
theorem sd_dflt_ok (k : Nat) : sd_okv (am_dflt k) := by
  unfold am_dflt
  split
  · trivial
  · exact sd_0
theorem sd_kd_some {t : Option FieldType} {k : Nat} (h : am_kd t k = true) : ∃ ty, t = some ty := by
  cases t with
  | none => cases h
  | some ty => exact ⟨ty, rfl⟩
theorem sd_upd {l : List Int} {i : Nat} {x : Int} (hi : i < l.length) : upd (fun k => Int32.ofInt (l.getD k 0)) i (Int32.ofInt x) = fun k => Int32.ofInt ((l.set i x).getD k 0) := by
  funext k
  unfold upd
  dsimp only
  rw [List.getD_eq_getElem?_getD, List.getD_eq_getElem?_getD]
  by_cases hk : k = i
  · subst hk
    rw [if_pos rfl, List.getElem?_set_self hi]
    rfl
  · rw [if_neg hk, List.getElem?_set_ne (fun e => hk e.symm)]
theorem sd_updq {G : sd_T} {l : List (Option Nat)} {i v : Nat} (hi : i < l.length) : va_up (fun k => (l.getD k none).map (sd_ad G)) i (some (sd_ad G v)) = fun k => ((l.set i (some v)).getD k none).map (sd_ad G) := by
  funext k
  unfold va_up
  dsimp only
  rw [List.getD_eq_getElem?_getD, List.getD_eq_getElem?_getD]
  by_cases hk : k = i
  · subst hk
    rw [if_pos rfl, List.getElem?_set_self hi]
    rfl
  · rw [if_neg hk, List.getElem?_set_ne (fun e => hk e.symm)]
theorem am_cpy_len {l g : List Int} {sp dp k : Nat} (h1 : sp + k ≤ l.length) (h2 : dp + k ≤ g.length) : (am_cpy l g sp dp k).length = g.length := by
  simp [am_cpy]; omega
theorem am_cpy_get {l g : List Int} {sp dp k : Nat} (h1 : sp + k ≤ l.length) (h2 : dp + k ≤ g.length) (j : Nat) : (am_cpy l g sp dp k).getD j 0 = if dp ≤ j ∧ j < dp + k then l.getD (sp + (j - dp)) 0 else g.getD j 0 := by
  have e1 : (g.take dp).length = dp := by simp; omega
  have e2 : ((l.drop sp).take k).length = k := by simp; omega
  unfold am_cpy
  simp only [List.getD_eq_getElem?_getD]
  by_cases a : j < dp
  · rw [if_neg (by omega), List.append_assoc, List.getElem?_append_left (by omega), List.getElem?_take_of_lt a]
  · by_cases b : j < dp + k
    · rw [if_pos (by omega), List.append_assoc, List.getElem?_append_right (by omega), List.getElem?_append_left (by omega), e1, List.getElem?_take_of_lt (by omega), List.getElem?_drop]
    · rw [if_neg (by omega), List.getElem?_append_right (by simp; omega)]
      simp only [List.length_append, e1, e2, List.getElem?_drop]
      rw [show dp + k + (j - (dp + k)) = j by omega]
theorem am_cpy_in {l g : List Int} {sp dp k : Nat} (hl : ∀ x ∈ l, inR x) (hg : ∀ x ∈ g, inR x) : ∀ x ∈ am_cpy l g sp dp k, inR x := by
  intro x hx
  unfold am_cpy at hx
  rcases List.mem_append.mp hx with hx | hx
  · rcases List.mem_append.mp hx with hx | hx
    · exact hg x (List.mem_of_mem_take hx)
    · exact hl x (List.mem_of_mem_drop (List.mem_of_mem_take hx))
  · exact hg x (List.mem_of_mem_drop hx)
theorem sd_getD_in {l : List Int} {i : Nat} (h : ∀ x ∈ l, inR x) : inR (l.getD i 0) := by
  rw [List.getD_eq_getElem?_getD]
  cases hi : l[i]? with
  | none => exact sd_0
  | some x => exact h x (List.mem_of_getElem? hi)
theorem am_tk_spec : ∀ (k : Nat) (st acc : List am_V) {a r : List am_V}, am_tk k st acc = some (a, r) → ∃ q, a = q ++ acc ∧ st = q.reverse ++ r ∧ q.length = k
  | 0, st, acc, a, r, h => by cases h; exact ⟨[], rfl, rfl, rfl⟩
  | k + 1, [], acc, a, r, h => by cases h
  | k + 1, v :: st, acc, a, r, h => by
    obtain ⟨q, h1, h2, h3⟩ := am_tk_spec k st (v :: acc) h
    exact ⟨q ++ [v], by rw [h1]; simp, by rw [h2]; simp, by simp [h3]⟩
theorem am_tk_0 {k : Nat} {st a r : List am_V} (h : am_tk k st [] = some (a, r)) : st = a.reverse ++ r ∧ a.length = k := by
  obtain ⟨q, h1, h2, h3⟩ := am_tk_spec k st [] h
  rw [List.append_nil] at h1
  subst h1
  exact ⟨h2, h3⟩
theorem am_ire : ∀ q, q < am_N → am_ini q = true → am_re q = none := by decide +kernel
theorem am_own_lt : ∀ q, q < am_N → am_own q < 12 := by decide +kernel
section
variable {G : sd_T} {p : Program} {l : Launch} {e : Env} {R : Room} {s : State} {mm : MethodId} {args : Array Value} {below : List Frame} {meth : Method} {c : Code} {Q : State → Prop} {m lim n0 D : Nat} {pc : Nat} {al : am_L} {st : List am_V} {n : Nat} {h : am_H}
theorem sd_fresh {q : Nat} {ee : va_E} {H1 : Heap} (hP : va_P (sd_D G) am_cl (sd_ws G n h ++ [(q, ee)]) H1) (hD : va_D (sd_A G) (sd_ws G n h ++ [(q, ee)])) (hs : H1.size ≤ sd_o G + n + 1) : q = sd_o G + n := by
  have e1 : (sd_ws G n h ++ [(q, ee)])[n]? = some (q, ee) := by
    rw [List.getElem?_append_right (by rw [sd_ws_len]; exact Nat.le_refl n), sd_ws_len, Nat.sub_self]
    rfl
  have a1 : sd_o G ≤ q := hD.2 _ _ e1
  have a2 : q < H1.size := (hP _ _ e1).lt
  apply Classical.byContradiction
  intro hne
  have a3 : q - sd_o G < n := by omega
  have e2 : (sd_ws G n h ++ [(q, ee)])[q - sd_o G]? = some (sd_ad G (q - sd_o G + 1), sd_ce G (h (q - sd_o G + 1))) := by
    rw [List.getElem?_append_left (by rw [sd_ws_len]; exact a3)]
    exact sd_at G h (r := q - sd_o G + 1) (by omega) (by omega)
  have := hD.1 _ _ _ _ e1 e2 (by rw [sd_ad_s]; show q = _; omega)
  omega
theorem sd_l_gf (Cx : sd_Cx G p l e R s mm args below meth c m lim n0 D) {ix : Nat} (hd : decode (am_code m) pc = .ok (.getfield ix, 3)) (a : am_gf m (sd_XX G p l e R s mm args below meth c Q lim n0) pc al st n h ix) : sd_XX G p l e R s mm args below meth c Q lim n0 pc al st n h := by
  obtain ⟨hx, hb, hown, hts, hSt, hini, hsz, hfr, hlo, hce, hsl⟩ := Cx
  unfold am_gf at a
  split at a
  · next ci k hfl =>
    split at a
    · next r rest =>
      split at a
      · next c' fs hr =>
        obtain ⟨rfl, a⟩ := a
        split at a
        · next v hv =>
          intro H locs ls hR hS hl hml hol hos h1 h2
          obtain ⟨⟨C, T, N⟩, hc, hk, hlink, hdecl, -, -⟩ := am_flk hfl
          obtain ⟨-, -, hat, hok⟩ := sd_obj hR hr (am_cl_99 hc)
          dsimp only at hk hlink hdecl
          exact va_get hx hb hts (am_cf _ _ hc).1 hown hSt.1 hR.1 (r - 1) hat hc k hk (hts _ hlink) (fun x hq => by rw [hdecl] at hq; exact hq) (v := sd_cv G v) (by rw [List.getElem?_map, hv]; rfl) hd (a H locs ls hR hS hl hml hol (sd_oks_cons.mpr ⟨hok v (List.mem_of_getElem? hv), (sd_oks_cons.mp hos).2⟩) h1 h2)
        · exact a.elim
      · exact a.elim
    · exact a.elim
  · exact a.elim
theorem sd_l_pf (Cx : sd_Cx G p l e R s mm args below meth c m lim n0 D) {ix : Nat} (hd : decode (am_code m) pc = .ok (.putfield ix, 3)) (a : am_pf m (sd_XX G p l e R s mm args below meth c Q lim n0) pc al st n h ix) : sd_XX G p l e R s mm args below meth c Q lim n0 pc al st n h := by
  obtain ⟨hx, hb, hown, hts, hSt, hini, hsz, hfr, hlo, hce, hsl⟩ := Cx
  unfold am_pf at a
  split at a
  · next ci k hfl =>
    split at a
    · next v r rest =>
      split at a
      · next c' fs hr =>
        obtain ⟨rfl, hkl, hfin, hfit, a⟩ := a
        intro H locs ls hR hS hl hml hol hos h1 h2
        obtain ⟨⟨C, T, N⟩, hc, hk, hlink, hdecl, hff, hkd⟩ := am_flk hfl
        obtain ⟨h0, hr1, hat, hok⟩ := sd_obj hR hr (am_cl_99 hc)
        dsimp only at hk hlink hdecl hff hkd
        obtain ⟨hv, hos⟩ := sd_oks_cons.mp hos
        obtain ⟨-, hos⟩ := sd_oks_cons.mp hos
        obtain ⟨hu, ⟨ty0, hty0⟩, hnm⟩ := am_cf _ _ hc
        obtain ⟨ty, hty⟩ := sd_kd_some hkd
        rw [hty] at hkd
        obtain ⟨f1, f2⟩ := sd_fits G hkd hfit
        have hkk : ∀ (H1 : Heap) (locs1 : List Loc), va_P (sd_D G) am_cl ((sd_ws G n h).set (r - 1) (sd_ad G r, .inr (c', (fs.map (sd_cv G)).set k (sd_cv G v)))) H1 → va_D (sd_A G) ((sd_ws G n h).set (r - 1) (sd_ad G r, .inr (c', (fs.map (sd_cv G)).set k (sd_cv G v)))) → va_S (sd_A G) s.heap H1 locs1 → W p l e R s mm args below meth c H1 locs1 (n - n0) (3500 * (n - n0)) Q (F0 mm (pc + 3) ls (rest.map (sd_cv G))) := by
          intro H1 locs1 g1 _ g3
          rw [← List.map_set] at g1
          refine a H1 locs1 ls (hR.put h0 hr1 (c := Sum.inl (c', fs.set k v)) (fun w hw => ?_) g1) g3 hl hml hol hos h1 h2
          rcases List.mem_or_eq_of_mem_set hw with q | q
          · exact hok w q
          · rw [q]; exact hv
        by_cases hf : (am_ff c').getD k true = true
        · obtain ⟨i1, i2⟩ := hfin hf
          have hC : am_cn (am_own m) = C := by rw [i2]; exact am_cn_x _ _ hc
          exact va_putF hx hb hts hu ty0 hty0 hnm hown hSt.1 hR.1 (sd_dis G n h) hS (r - 1) hat hc k hk (hts _ hlink) (fun x hq => by rw [hdecl] at hq; exact hq) (by rw [hff]; exact hf) (hini i1) (by rw [hdecl, hC]) hty f1 f2 (by simp; exact hkl) hd hkk
        · exact va_put hx hb hts hu ty0 hty0 hnm hown hSt.1 hR.1 (sd_dis G n h) hS (r - 1) hat hc k hk (hts _ hlink) (fun x hq => by rw [hdecl] at hq; exact hq) (by rw [hff]; simpa using hf) hty f1 f2 (by simp; exact hkl) hd hkk
      · exact a.elim
    · exact a.elim
  · exact a.elim
theorem sd_l_iald (Cx : sd_Cx G p l e R s mm args below meth c m lim n0 D) (hd : decode (am_code m) pc = .ok (.iaload, 1)) (a : am_iald (sd_XX G p l e R s mm args below meth c Q lim n0) pc al st n h) : sd_XX G p l e R s mm args below meth c Q lim n0 pc al st n h := by
  obtain ⟨hx, hb, hown, hts, hSt, hini, hsz, hfr, hlo, hce, hsl⟩ := Cx
  unfold am_iald at a
  split at a
  · next i r rest =>
    split at a
    · next ll hr =>
      obtain ⟨⟨i1, i2⟩, a⟩ := a
      intro H locs ls hR hS hl hml hol hos h1 h2
      obtain ⟨hi, hos⟩ := sd_oks_cons.mp hos
      obtain ⟨-, hos⟩ := sd_oks_cons.mp hos
      have hi : inR i := hi
      have hok := hR.2.2.2 r
      rw [hr] at hok
      have ka := a H locs ls hR hS hl hml hol (sd_oks_cons.mpr ⟨sd_getD_in hok, hos⟩) h1 h2
      by_cases h0 : r = 0
      · subst h0
        rw [hR.2.1] at hr
        cases hr
        have hbo : sd_o G ≤ s.heap.size := by omega
        refine va_sld hx hb hSt.2.2.2.1 (Nat.lt_of_lt_of_le hSt.2.2.2.2.1 hbo) (Nat.not_le.mpr hSt.2.2.2.2.1) hS (sd_vin hi i1 i2) hd ?_
        rw [sd_nat hi]
        exact ka
      · obtain ⟨-, hat, -⟩ := sd_arr hR hr h0
        refine va_iald hx hb hSt.1 hR.1 (r - 1) 0 hat rfl (sd_vin hi i1 i2) hd ?_
        rw [sd_nat hi]
        exact ka
    · exact a.elim
  · exact a.elim
theorem sd_l_iast (Cx : sd_Cx G p l e R s mm args below meth c m lim n0 D) (hd : decode (am_code m) pc = .ok (.iastore, 1)) (a : am_iast (sd_XX G p l e R s mm args below meth c Q lim n0) pc al st n h) : sd_XX G p l e R s mm args below meth c Q lim n0 pc al st n h := by
  obtain ⟨hx, hb, hown, hts, hSt, hini, hsz, hfr, hlo, hce, hsl⟩ := Cx
  unfold am_iast at a
  split at a
  · next x i r rest =>
    split at a
    · next ll hr =>
      obtain ⟨h0, ⟨i1, i2⟩, a⟩ := a
      intro H locs ls hR hS hl hml hol hos h1 h2
      obtain ⟨hv, hos⟩ := sd_oks_cons.mp hos
      obtain ⟨hi, hos⟩ := sd_oks_cons.mp hos
      obtain ⟨-, hos⟩ := sd_oks_cons.mp hos
      have hi : inR i := hi
      obtain ⟨hr1, hat, hok⟩ := sd_arr hR hr h0
      refine va_iast hx hb hSt.1 hR.1 (sd_dis G n h) hS (r - 1) 0 hat rfl (sd_vin hi i1 i2) hd (fun H1 locs1 g1 _ g3 => ?_)
      rw [sd_nat hi, sd_upd (by omega)] at g1
      refine a H1 locs1 ls (hR.put h0 hr1 (c := Sum.inr (Sum.inl (ll.set i.toNat x))) (fun w hw => ?_) ?_) g3 hl hml hol hos h1 h2
      · rcases List.mem_or_eq_of_mem_set hw with q | q
        · exact hok w q
        · rw [q]; exact hv
      · unfold sd_ce
        dsimp only
        rw [List.length_set]
        exact g1
    · exact a.elim
  · exact a.elim
theorem sd_l_aald (Cx : sd_Cx G p l e R s mm args below meth c m lim n0 D) (hd : decode (am_code m) pc = .ok (.aaload, 1)) (a : am_aald (sd_XX G p l e R s mm args below meth c Q lim n0) pc al st n h) : sd_XX G p l e R s mm args below meth c Q lim n0 pc al st n h := by
  obtain ⟨hx, hb, hown, hts, hSt, hini, hsz, hfr, hlo, hce, hsl⟩ := Cx
  unfold am_aald at a
  split at a
  · next i r rest =>
    split at a
    · next ci ll hr =>
      obtain ⟨⟨i1, i2⟩, a⟩ := a
      intro H locs ls hR hS hl hml hol hos h1 h2
      obtain ⟨hi, hos⟩ := sd_oks_cons.mp hos
      obtain ⟨-, hos⟩ := sd_oks_cons.mp hos
      have hi : inR i := hi
      obtain ⟨-, -, hat, hq⟩ := sd_qar hR hr
      obtain ⟨t, ht⟩ := sd_tyq (G := G) hq
      refine va_aldq hx hb hSt.1 hR.1 (r - 1) t hat ht (sd_vin hi i1 i2) hd ?_
      rw [sd_nat hi]
      exact a H locs ls hR hS hl hml hol (sd_oks_cons.mpr ⟨trivial, hos⟩) h1 h2
    · exact a.elim
  · exact a.elim
theorem sd_l_aast (Cx : sd_Cx G p l e R s mm args below meth c m lim n0 D) (hd : decode (am_code m) pc = .ok (.aastore, 1)) (a : am_aast (sd_XX G p l e R s mm args below meth c Q lim n0) pc al st n h) : sd_XX G p l e R s mm args below meth c Q lim n0 pc al st n h := by
  obtain ⟨hx, hb, hown, hts, hSt, hini, hsz, hfr, hlo, hce, hsl⟩ := Cx
  unfold am_aast at a
  split at a
  · next v i r rest =>
    split at a
    · next ci ll c' fs hr hv =>
      obtain ⟨rfl, ⟨i1, i2⟩, a⟩ := a
      intro H locs ls hR hS hl hml hol hos h1 h2
      obtain ⟨-, hos⟩ := sd_oks_cons.mp hos
      obtain ⟨hi, hos⟩ := sd_oks_cons.mp hos
      obtain ⟨-, hos⟩ := sd_oks_cons.mp hos
      have hi : inR i := hi
      obtain ⟨h0, hr1, hat, hq⟩ := sd_qar hR hr
      have hc99 : c' ≠ 99 := by
        rintro rfl
        cases hq
      obtain ⟨-, -, hav, -⟩ := sd_obj hR hv hc99
      obtain ⟨t, ht⟩ := sd_tyq (G := G) hq
      obtain ⟨rr, hc, -⟩ := hR.1 _ _ hav
      rw [am_cn_x _ _ hc] at ht
      refine va_astq hx hb hSt.1 hR.1 (sd_dis G n h) hS (r - 1) t (v - 1) c' hat ht hav hc (sd_vin hi i1 i2) hd (fun H1 locs1 g1 _ g3 => ?_)
      rw [sd_nat hi, sd_updq (by omega)] at g1
      refine a H1 locs1 ls (hR.put h0 hr1 (c := Sum.inr (Sum.inr (c', ll.set i.toNat (some v)))) hq ?_) g3 hl hml hol hos h1 h2
      unfold sd_ce
      dsimp only
      rw [List.length_set]
      exact g1
    · exact a.elim
  · exact a.elim
theorem sd_l_alen (Cx : sd_Cx G p l e R s mm args below meth c m lim n0 D) (hd : decode (am_code m) pc = .ok (.arraylength, 1)) (a : am_alen (sd_XX G p l e R s mm args below meth c Q lim n0) pc al st n h) : sd_XX G p l e R s mm args below meth c Q lim n0 pc al st n h := by
  obtain ⟨hx, hb, hown, hts, hSt, hini, hsz, hfr, hlo, hce, hsl⟩ := Cx
  unfold am_alen at a
  split at a
  · next r rest =>
    split at a
    · next ll hr =>
      obtain ⟨rfl, a⟩ := a
      intro H locs ls hR hS hl hml hol hos h1 h2
      rw [hR.2.1] at hr
      cases hr
      have hbo : sd_o G ≤ s.heap.size := by omega
      have hlen := hSt.2.2.2.2.2
      exact va_slen hx hb hSt.2.2.2.1 (Nat.lt_of_lt_of_le hSt.2.2.2.2.1 hbo) (Nat.not_le.mpr hSt.2.2.2.2.1) hS hd (a H locs ls hR hS hl hml hol (sd_oks_cons.mpr ⟨(show inR _ by unfold inR; omega), (sd_oks_cons.mp hos).2⟩) h1 h2)
    · exact a.elim
  · exact a.elim
/-- behind the making of a cell -/
theorem sd_made (Cx : sd_Cx G p l e R s mm args below meth c m lim n0 D) {q N : Nat} {cc : am_C} {H1 : Heap} {locs : List Loc} {ls : Array Slot} {k : Nat} {rest : List am_V} (hn : n + 1 ≤ lim) (h1 : n0 ≤ n) (hN : N ≤ 3500) {H : Heap} (hR : sd_R G n h H) (hcc : sd_okc cc) (hP1 : va_P (sd_D G) am_cl (sd_ws G n h ++ [(q, sd_ce G cc)]) H1) (hD1 : va_D (sd_A G) (sd_ws G n h ++ [(q, sd_ce G cc)])) (hS1 : va_S (sd_A G) s.heap H1 locs) (hl : lv_has ls c.maxLocals (sd_lv G 0 al)) (hml : al.length = c.maxLocals) (hol : sd_okl al) (hos : sd_oks rest)
    (a : sd_XX G p l e R s mm args below meth c Q lim n0 (pc + k) al (Sum.inr (Sum.inr (some (n + 1))) :: rest) (n + 1) (am_up h (n + 1) cc)) : W p l e R s mm args below meth c H1 locs (n - n0 + 1) (3500 * (n - n0) + N) Q (F0 mm (pc + k) ls (.ref q :: rest.map (sd_cv G))) := by
  refine sd_size (fun hs => ?_)
  have hsz := Cx.2.2.2.2.2.2.1
  have hq := sd_fresh hP1 hD1 (by omega)
  subst hq
  refine W.widen (k := n + 1 - n0) (n := 3500 * (n + 1 - n0)) (by omega) (by omega) ?_
  have ka := a H1 locs ls (hR.push hcc hP1) hS1 hl hml hol (sd_oks_cons.mpr ⟨trivial, hos⟩) (by omega) hn
  have e : sd_cv G (Sum.inr (Sum.inr (some (n + 1)))) = Value.ref (sd_o G + n) := by
    show Value.ref (sd_ad G (n + 1)) = _
    rw [sd_ad_s]
  rw [List.map_cons, e] at ka
  exact ka
theorem sd_l_new (Cx : sd_Cx G p l e R s mm args below meth c m lim n0 D) {ix : Nat} (hd : decode (am_code m) pc = .ok (.new ix, 3)) (a : am_new m lim (sd_XX G p l e R s mm args below meth c Q lim n0) pc al st n h ix) : sd_XX G p l e R s mm args below meth c Q lim n0 pc al st n h := by
  obtain ⟨hx, hb, hown, hts, hSt, hini, hsz, hfr, hlo, hce, hsl⟩ := id Cx
  unfold am_new at a
  split at a
  · next ci hcl =>
    obtain ⟨hn, a⟩ := a
    intro H locs ls hR hS hl hml hol hos h1 h2
    obtain ⟨⟨C, T, N⟩, hc, hlink, hinst, hinit, hfl⟩ := am_clk hcl
    dsimp only at hlink hinst hinit hfl
    obtain ⟨hu, ⟨ty0, hty0⟩, -⟩ := am_cf _ _ hc
    dsimp only at hu hty0
    have hN : N ≤ 41 := by
      have hci : ci < 8 := (List.getElem?_eq_some_iff.mp hc).1
      have : ∀ i : Nat, i < 8 → ∀ r, am_cl[i]? = some r → r.2.2 ≤ 41 := by
        intro i hi r hr
        match i, hi, hr with
        | 0, _, hr => cases hr; decide
        | 1, _, hr => cases hr; decide
        | 2, _, hr => cases hr; decide
        | 3, _, hr => cases hr; decide
        | 4, _, hr => cases hr; decide
        | 5, _, hr => cases hr; decide
        | 6, _, hr => cases hr; decide
        | 7, _, hr => cases hr; decide
      exact this ci hci _ hc
    refine va_new (fs := ((am_fk ci).map am_dflt).map (sd_cv G)) hx hb hts hu ty0 hty0 hown (hts _ hlink) (hts _ hinst) (hts _ hinit) hSt.1 hR.1 (sd_dis G n h) hS (fun q hq => Nat.le_trans (by omega) hq) hc (fun j hj => ?_) (by omega) (by omega) hd (fun q H1 g1 g2 g3 => ?_)
    · have hkd := am_tyk hc hj
      dsimp only at hkd
      rw [hty0 j hj] at hkd
      rw [sd_dflt G hkd]
      unfold vp_V
      have hj2 : j < (am_fk ci).length := by omega
      simp [List.getD_eq_getElem?_getD, hj2]
    · exact sd_made (cc := Sum.inl (ci, (am_fk ci).map am_dflt)) Cx hn h1 (by omega) hR (fun v hv => by
        obtain ⟨k, -, rfl⟩ := List.mem_map.mp hv
        exact sd_dflt_ok k) g1 g2 g3 hl hml hol hos a
  · exact a.elim
theorem sd_l_nea (Cx : sd_Cx G p l e R s mm args below meth c m lim n0 D) {t : ArrayType} (hd : decode (am_code m) pc = .ok (.newarray t, 2)) (a : am_nea lim (sd_XX G p l e R s mm args below meth c Q lim n0) pc al st n h t) : sd_XX G p l e R s mm args below meth c Q lim n0 pc al st n h := by
  obtain ⟨hx, hb, hown, hts, hSt, hini, hsz, hfr, hlo, hce, hsl⟩ := id Cx
  unfold am_nea at a
  split at a
  · next k r =>
    obtain ⟨⟨k1, k2⟩, hn, a⟩ := a
    intro H locs ls hR hS hl hml hol hos h1 h2
    obtain ⟨hk, hos⟩ := sd_oks_cons.mp hos
    have hk : inR k := hk
    refine va_newa (atype := .int) (a0 := (k.toNat, .inl (fun _ => 0))) (ty := .int) hx hb (hts _ am_w_arr) rfl hSt.1 hR.1 (sd_dis G n h) hS (fun q hq => Nat.le_trans (by omega) hq) (fun cA => rfl) (by rw [sd_z, sd_lt hk sd_0]; omega) (sd_nat hk) (by show k.toNat * 4 ≤ _; omega) (by omega) (by omega) hd (fun q cA H1 g0 g1 g2 g3 => ?_)
    have hcA : cA = sd_ai G := by
      have q1 : s.vm.findClass ("[" ++ (FieldType.int).toString) = some cA := (g0.2 4 (cA, .int) rfl).2
      have q2 : s.vm.findClass ("[" ++ (FieldType.int).toString) = some (sd_ai G) := (hSt.1.2 0 (sd_ai G, .int) rfl).2
      exact Option.some.inj (q1.symm.trans q2)
    subst hcA
    have e1 : (.inl (sd_ai G, k.toNat, .inl (fun _ => 0)) : va_E) = sd_ce G (Sum.inr (Sum.inl (List.replicate k.toNat 0))) := by
      unfold sd_ce
      dsimp only
      rw [List.length_replicate]
      congr 4
      funext j
      rw [List.getD_eq_getElem?_getD, List.getElem?_replicate]
      split <;> rfl
    rw [e1] at g1 g2
    exact sd_made (cc := Sum.inr (Sum.inl (List.replicate k.toNat 0))) Cx hn h1 (by omega) hR (fun x hx => by rw [List.eq_of_mem_replicate hx]; exact sd_0) g1 g2 g3 hl hml hol hos a
  · exact a.elim
theorem sd_l_neq (Cx : sd_Cx G p l e R s mm args below meth c m lim n0 D) {ix : Nat} (hd : decode (am_code m) pc = .ok (.anewarray ix, 3)) (a : am_neq m lim (sd_XX G p l e R s mm args below meth c Q lim n0) pc al st n h ix) : sd_XX G p l e R s mm args below meth c Q lim n0 pc al st n h := by
  obtain ⟨hx, hb, hown, hts, hSt, hini, hsz, hfr, hlo, hce, hsl⟩ := id Cx
  unfold am_neq at a
  split at a
  · next ci k r hcl =>
    obtain ⟨⟨k1, k2⟩, ⟨hn, hq⟩, a⟩ := a
    intro H locs ls hR hS hl hml hol hos h1 h2
    obtain ⟨hk, hos⟩ := sd_oks_cons.mp hos
    have hk : inR k := hk
    obtain ⟨rr, hc, hlink, -⟩ := am_clk hcl
    rw [← am_cn_x _ _ hc] at hlink
    obtain ⟨t, ht⟩ := sd_tyq (G := G) hq
    refine va_newq (C := am_cn ci) hx hb hown (hts _ hlink) (hSt.2.2.1 ci hq) hSt.1 hR.1 (sd_dis G n h) hS (fun q hq => Nat.le_trans (by omega) hq) (by rw [sd_z, sd_lt hk sd_0]; omega) (sd_nat hk) (by omega) (by omega) (by omega) hd (fun q cA H1 g0 g1 g2 g3 => ?_)
    have hcA : cA = sd_aq G ci := by
      obtain ⟨-, -, -, -, -, q1⟩ := (g0.2 4 (cA, .object (am_cn ci)) rfl).2
      obtain ⟨-, -, -, -, -, q2⟩ := (hSt.1.2 t _ ht).2
      exact Option.some.inj (q1.symm.trans q2)
    subst hcA
    have e1 : (.inl (sd_aq G ci, k.toNat, .inr (.inr (.inr (.inr (fun _ => none))))) : va_E) = sd_ce G (Sum.inr (Sum.inr (ci, List.replicate k.toNat none))) := by
      unfold sd_ce
      dsimp only
      rw [List.length_replicate]
      congr 7
      funext j
      rw [List.getD_eq_getElem?_getD, List.getElem?_replicate]
      split <;> rfl
    rw [e1] at g1 g2
    exact sd_made (cc := Sum.inr (Sum.inr (ci, List.replicate k.toNat none))) Cx hn h1 (by omega) hR hq g1 g2 g3 hl hml hol hos a
  · exact a.elim
theorem sd_rest {rest : List am_V} (h : rest.length ≤ 4) : ((rest.map (sd_cv G)).map fun v => v.category).sum ≤ 8 := by
  have : ∀ (r : List am_V), ((r.map (sd_cv G)).map fun v => v.category).sum ≤ 2 * r.length := by
    intro r
    induction r with
    | nil => simp
    | cons v r ih =>
      simp only [List.map_cons, List.sum_cons, List.length_cons]
      have := lv_cat (sd_cv G v)
      omega
  have := this rest
  omega
theorem sd_l_acp (Cx : sd_Cx G p l e R s mm args below meth c m lim n0 D) {ix q : Nat} (hml0 : am_ml (am_own m) ix = some (5, q)) (hd : decode (am_code m) pc = .ok (.invokestatic ix, 3)) (a : am_acp (sd_XX G p l e R s mm args below meth c Q lim n0) pc al st n h) : sd_XX G p l e R s mm args below meth c Q lim n0 pc al st n h := by
  obtain ⟨hx, hb, hown, hts, hSt, hini, hsz, hfr, hlo, hce, hsl⟩ := Cx
  obtain ⟨i, hi⟩ := am_mlk hml0
  have hlink := am_is_in (show am_is i (.methodLink (am_cn (am_own m)) ix arraycopyName) = true from hi)
  unfold am_acp at a
  split at a
  · next k dp r1 sp r0 rest =>
    split at a
    · next ll gg hr0 hr1 =>
      obtain ⟨⟨z0, z1⟩, ⟨s1, s2, s3, s4, s5⟩, hrl, a⟩ := a
      intro H locs ls hR hS hl hml hol hos h1 h2
      obtain ⟨hk, hos⟩ := sd_oks_cons.mp hos
      obtain ⟨hdp, hos⟩ := sd_oks_cons.mp hos
      obtain ⟨-, hos⟩ := sd_oks_cons.mp hos
      obtain ⟨hsp, hos⟩ := sd_oks_cons.mp hos
      obtain ⟨-, hos⟩ := sd_oks_cons.mp hos
      have hk : inR k := hk
      have hdp : inR dp := hdp
      have hsp : inR sp := hsp
      obtain ⟨-, hat0, hok0⟩ := sd_arr hR hr0 z0
      obtain ⟨hn1, hat1, hok1⟩ := sd_arr hR hr1 z1
      have hrs := sd_rest (G := G) hrl
      refine va_copyi hx hb hl.1.symm hown (hts _ hlink) (hts _ am_w_nat) (hts _ am_w_sta) (hts _ am_w_sys) hSt.1 hR.1 (sd_dis G n h) hS (r0 - 1) (r1 - 1) 0 0 (ty := .int) hat0 hat1 rfl rfl rfl (by rw [sd_z, sd_lt hsp sd_0]; omega) (by rw [sd_z, sd_lt hdp sd_0]; omega) (by rw [sd_z, sd_lt hk sd_0]; omega) (by rw [sd_nat hsp, sd_nat hk]; omega) (by rw [sd_nat hdp, sd_nat hk]; omega) (fun _ _ => rfl) (by omega) (by show _ + (7 + 11) ≤ _; omega) hd (fun H1 locs1 g1 _ g3 => ?_)
      rw [sd_nat hsp, sd_nat hdp, sd_nat hk] at g1
      refine a H1 locs1 ls (hR.put z1 hn1 (c := Sum.inr (Sum.inl (am_cpy ll gg sp.toNat dp.toNat k.toNat))) (am_cpy_in hok0 hok1) ?_) g3 hl hml hol hos h1 h2
      unfold sd_ce
      dsimp only
      rw [am_cpy_len (by omega) (by omega)]
      have e1 : va_cpy (fun k => Int32.ofInt (ll.getD k 0)) (fun k => Int32.ofInt (gg.getD k 0)) sp.toNat dp.toNat k.toNat = fun j => Int32.ofInt ((am_cpy ll gg sp.toNat dp.toNat k.toNat).getD j 0) := by
        funext j
        rw [am_cpy_get (by omega) (by omega)]
        unfold va_cpy
        split <;> rfl
      rw [← e1]
      exact g1
    · exact a.elim
  · exact a.elim
theorem sd_l_obi (Cx : sd_Cx G p l e R s mm args below meth c m lim n0 D) {ix q : Nat} (hml0 : am_ml (am_own m) ix = some (6, q)) (hd : decode (am_code m) pc = .ok (.invokespecial ix, 3)) (a : am_obi (sd_XX G p l e R s mm args below meth c Q lim n0) pc al st n h) : sd_XX G p l e R s mm args below meth c Q lim n0 pc al st n h := by
  obtain ⟨hx, hb, hown, hts, hSt, hini, hsz, hfr, hlo, hce, hsl⟩ := Cx
  obtain ⟨i, hi⟩ := am_mlk hml0
  have hlink := am_is_in (show am_is i (.methodLink (am_cn (am_own m)) ix objectInit) = true from hi)
  unfold am_obi at a
  split at a
  · next r rest =>
    obtain ⟨hrl, a⟩ := a
    intro H locs ls hR hS hl hml hol hos h1 h2
    have hrs := lv_room (m := mm) (pc := pc) (ls := ls) (rest := .ref (sd_ad G r) :: rest.map (sd_cv G)) (sd_rest (G := G) hrl)
    exact W.objInit hx hb hown (hts _ hlink) (hts _ am_w_obi) (hts _ am_w_obc) rfl hl.1 rfl hd (by omega) (Nat.le_trans (Nat.add_le_add_right hrs 12) (by omega)) (a H locs ls hR hS hl hml hol (sd_oks_cons.mp hos).2 h1 h2)
  · exact a.elim
/-- behind a call -/
theorem sd_goon {K' : am_K} {n' cells slots mc ms : Nat} {H : Heap} {locs : List Loc} {ls : Array Slot} {st0 rest : List Value} {aa : Array Value} (hr : va_Run p l e R s mm args below meth c H locs cells slots mc ms (F0 mm pc ls st0) rest (sd_Qc G K' n' aa) (sd_A G)) (hS : va_S (sd_A G) s.heap H locs)
    (kk : ∀ (v : Option am_V) (h' : am_H) (H1 : Heap) (locs1 : List Loc), K' v n' h' → sd_R G n' h' H1 → (∀ w, v = some w → sd_okv w) → va_S (sd_A G) s.heap H1 locs1 → W p l e R s mm args below meth c H1 locs1 (cells + mc) (slots + ms) Q (F0 mm (pc + 3) ls ((v.map (sd_cv G)).toList ++ rest))) : W p l e R s mm args below meth c H locs cells slots Q (F0 mm pc ls st0) := by
  intro T hT Y
  obtain ⟨v, st₀, t, T', L, h0, Y', hL, e1, e2, ⟨⟨w, h', hv, hK, hR, ho⟩, hz, hk⟩, stp⟩ := hr T hT Y
  cases hv
  rw [h0] at hz hk
  rw [← e1] at hR hz hk
  obtain ⟨t2, a1, b1⟩ := kk w h' T'.heap (locs ++ L) hK hR ho
    ⟨Nat.le_trans hS.1 hz, fun q h1 h2 => by rw [hk q (Nat.lt_of_lt_of_le h1 hS.1) h2]; exact hS.2.1 q h1 h2, fun q hq => by
      rcases List.mem_append.mp hq with h | h
      · exact hS.2.2 q h
      · exact hL q h⟩ T' rfl Y'
  exact ⟨t2, stp t2 a1, b1⟩
theorem sd_blind {vs : List am_V} : FrameBlind (sd_Pc G vs n h) := fun a U g mk q => by
  obtain ⟨q1, q2, q3, q4⟩ := q
  exact ⟨q1, q2, q3, q4.calling⟩
theorem sd_pre (Cx : sd_Cx G p l e R s mm args below meth c m lim n0 D) {vs : List am_V} {H : Heap} {locs : List Loc} (hR : sd_R G n h H) (hS : va_S (sd_A G) s.heap H locs) (hz : H.size = sd_o G + n) : ∀ U : State, U.heap = H → s.WarmedH U.vm → sd_Pc G vs n h (vs.map (sd_cv G)).toArray U := fun U hU hW =>
  ⟨rfl, by rw [hU]; exact hz, by rw [hU]; exact hR, Cx.2.2.2.2.1.moved hW hU hS (by have := Cx.2.2.2.2.2.2.1; omega)⟩
theorem sd_wsm_good {q : Nat} (hq : q < am_N) : GoodIn am_gt (am_wsm q) := fun w hw => by
  rcases List.mem_cons.mp hw with rfl | hw
  · exact am_gt_good _ (am_mf hq).1
  · exact am_gt_good _ hw
/-- what is behind a call, from the abstract machine's -/
theorem sd_back {q : Nat} {rest : List am_V} {v : Option am_V} {h' : am_H} {H1 : Heap} {locs1 : List Loc} {ls : Array Slot} (hl : lv_has ls c.maxLocals (sd_lv G 0 al)) (hml : al.length = c.maxLocals) (hol : sd_okl al) (hos : sd_oks rest) (h1 : n0 ≤ n) (h2 : n + am_co q ≤ lim) (hR : sd_R G (n + am_co q) h' H1) (hv : ∀ w, v = some w → sd_okv w) (hS : va_S (sd_A G) s.heap H1 locs1)
    (a : sd_XX G p l e R s mm args below meth c Q lim n0 (pc + 3) al (am_po v rest) (n + am_co q) h') : W p l e R s mm args below meth c H1 locs1 (n - n0 + am_co q) (3500 * (n - n0) + 3500 * am_co q) Q (F0 mm (pc + 3) ls ((v.map (sd_cv G)).toList ++ rest.map (sd_cv G))) := by
  have ka := a H1 locs1 ls hR hS hl hml hol (by
    cases v with
    | none => exact hos
    | some w => exact sd_oks_cons.mpr ⟨hv w rfl, hos⟩) (by omega) h2
  have e1 : n + am_co q - n0 = n - n0 + am_co q := by omega
  have e2 : 3500 * (n + am_co q - n0) = 3500 * (n - n0) + 3500 * am_co q := by omega
  rw [e2, e1] at ka
  cases v with
  | none => exact ka
  | some w => exact ka
theorem sd_l_cls1 (Cx : sd_Cx G p l e R s mm args below meth c m lim n0 D) (hCl : sd_Cl G l D) {ix q : Nat} (hml0 : am_ml (am_own m) ix = some (1, q)) (hd : decode (am_code m) pc = .ok (.invokestatic ix, 3)) (a : am_cls lim (am_M D) (sd_XX G p l e R s mm args below meth c Q lim n0) pc al st n h q) : sd_XX G p l e R s mm args below meth c Q lim n0 pc al st n h := by
  obtain ⟨hx, hb, hown, hts, hSt, hini, hsz, hfr, hlo, hce, hsl⟩ := id Cx
  obtain ⟨i, hi⟩ := am_mlk hml0
  simp only [am_mlC, Bool.and_eq_true, decide_eq_true_eq, beq_iff_eq] at hi
  obtain ⟨⟨hq, hlk⟩, hsta⟩ := hi
  unfold am_cls at a
  split at a
  · next vs rest htk =>
    intro H locs ls hR hS hl hml hol hos h1 h2
    obtain ⟨hst, hlen⟩ := am_tk_0 htk
    subst hst
    refine sd_sized Cx hR hS h1 (fun hz => ?_)
    obtain ⟨⟨hrl, hsl2⟩, hlim, hcall⟩ := a
    have hov : sd_oks vs := fun v hv => hos v (List.mem_append_left _ (List.mem_reverse.mpr hv))
    have hor : sd_oks rest := fun v hv => hos v (List.mem_append_right _ hv)
    have hM := hCl q vs n h _ hq hcall hov hsl2
    obtain ⟨mf1, mf2, mf3, mf4, mf5, mf6, mf7, mf8, mf9, mf10, mf11, mf12, mf13, mf14⟩ := am_mf hq
    have hrm : (sd_rm D q).frames + 1 ≤ R.frames ∧ 8 + (am_mx q + 11) + (sd_rm D q).locals ≤ R.locals := ⟨hfr, by show 8 + (am_mx q + 11) + 38 * D ≤ _; omega⟩
    refine sd_goon (va_runS (As := vs.map (sd_cv G)) (rest := rest.map (sd_cv G)) ⟨hx, hb, rfl, hown, hts⟩ hM ⟨callB_of (ws' := am_gt) (am_na q) hts (sd_wsm_good hq) rfl rfl rfl (hts _ mf2) (hts _ (am_is_in hlk)) ⟨mf7, mf8, by rw [mf11, if_pos hsta]⟩ hrm, hts _ (mf3 hsta)⟩ ⟨sd_blind, sd_pre Cx hR hS hz⟩ rfl (by rw [List.length_map]; exact hlen) hl.1 (by simp) (lv_room (sd_rest hrl)) hd ⟨by omega, by omega⟩) hS (fun v h' H1 locs1 g1 g2 g3 g4 => ?_)
    exact sd_back hl hml hol hor h1 hlim g2 g3 g4 g1
  · exact a.elim
theorem sd_l_cls3 (Cx : sd_Cx G p l e R s mm args below meth c m lim n0 D) (hCl : sd_Cl G l D) {ix q : Nat} (hml0 : am_ml (am_own m) ix = some (3, q)) (hd : decode (am_code m) pc = .ok (.invokestatic ix, 3)) (a : am_cls lim (am_M D) (sd_XX G p l e R s mm args below meth c Q lim n0) pc al st n h q) : sd_XX G p l e R s mm args below meth c Q lim n0 pc al st n h := by
  obtain ⟨hx, hb, hown, hts, hSt, hini, hsz, hfr, hlo, hce, hsl⟩ := id Cx
  obtain ⟨i, hi⟩ := am_mlk hml0
  simp only [am_mlC, Bool.and_eq_true, decide_eq_true_eq, beq_iff_eq] at hi
  obtain ⟨⟨hq, hlk⟩, hsta⟩ := hi
  unfold am_cls at a
  split at a
  · next vs rest htk =>
    intro H locs ls hR hS hl hml hol hos h1 h2
    obtain ⟨hst, hlen⟩ := am_tk_0 htk
    subst hst
    refine sd_sized Cx hR hS h1 (fun hz => ?_)
    obtain ⟨⟨hrl, hsl2⟩, hlim, hcall⟩ := a
    have hov : sd_oks vs := fun v hv => hos v (List.mem_append_left _ (List.mem_reverse.mpr hv))
    have hor : sd_oks rest := fun v hv => hos v (List.mem_append_right _ hv)
    have hM := hCl q vs n h _ hq hcall hov hsl2
    obtain ⟨mf1, mf2, mf3, mf4, mf5, mf6, mf7, mf8, mf9, mf10, mf11, mf12, mf13, mf14⟩ := am_mf hq
    have hrm : (sd_rm D q).frames + 1 ≤ R.frames ∧ 8 + (am_mx q + 11) + (sd_rm D q).locals ≤ R.locals := ⟨hfr, by show 8 + (am_mx q + 11) + 38 * D ≤ _; omega⟩
    refine sd_goon (va_runSN (As := vs.map (sd_cv G)) (rest := rest.map (sd_cv G)) ⟨hx, hb, rfl, hown, hts⟩ hM ⟨va_cnB (ws' := am_gt) (am_na q) hts (sd_wsm_good hq) rfl rfl rfl (hSt.2.1 _ hlk) (hts _ mf2) ⟨mf7, mf8, by rw [mf11, if_pos hsta]⟩ hrm, hts _ (mf3 hsta), trivial⟩ ⟨sd_blind, sd_pre Cx hR hS hz⟩ rfl (by rw [List.length_map]; exact hlen) hl.1 (by simp) (lv_room (sd_rest hrl)) hd ⟨by omega, by omega⟩) hS (fun v h' H1 locs1 g1 g2 g3 g4 => ?_)
    exact sd_back hl hml hol hor h1 hlim g2 g3 g4 g1
  · exact a.elim
theorem sd_l_clv (Cx : sd_Cx G p l e R s mm args below meth c m lim n0 D) (hCl : sd_Cl G l D) {ix q : Nat} (hml0 : am_ml (am_own m) ix = some (0, q)) (hd : decode (am_code m) pc = .ok (.invokevirtual ix, 3)) (a : am_clv lim (am_M D) (sd_XX G p l e R s mm args below meth c Q lim n0) pc al st n h q) : sd_XX G p l e R s mm args below meth c Q lim n0 pc al st n h := by
  obtain ⟨hx, hb, hown, hts, hSt, hini, hsz, hfr, hlo, hce, hsl⟩ := id Cx
  obtain ⟨i, hi⟩ := am_mlk hml0
  simp only [am_mlC, Bool.and_eq_true, decide_eq_true_eq, beq_iff_eq] at hi
  obtain ⟨⟨⟨hq, hlk⟩, hsta⟩, hin0⟩ := hi
  unfold am_clv at a
  split at a
  · next r vs rest htk =>
   split at a
   · next c' fs hr =>
    obtain ⟨hc', a⟩ := a
    intro H locs ls hR hS hl hml hol hos h1 h2
    obtain ⟨hst, hlen⟩ := am_tk_0 htk
    subst hst
    refine sd_sized Cx hR hS h1 (fun hz => ?_)
    obtain ⟨⟨hrl, hsl2⟩, hlim, hcall⟩ := a
    have hov : sd_oks (Sum.inr (Sum.inr (some r)) :: vs) := fun v hv => hos v (List.mem_append_left _ (List.mem_reverse.mpr hv))
    have hor : sd_oks rest := fun v hv => hos v (List.mem_append_right _ hv)
    have hM := hCl q (Sum.inr (Sum.inr (some r)) :: vs) n h _ hq hcall hov hsl2
    obtain ⟨mf1, mf2, mf3, mf4, mf5, mf6, mf7, mf8, mf9, mf10, mf11, mf12, mf13, mf14⟩ := am_mf hq
    have hrm : (sd_rm D q).frames + 1 ≤ R.frames ∧ 8 + (am_mx q + 11) + (sd_rm D q).locals ≤ R.locals := ⟨hfr, by show 8 + (am_mx q + 11) + 38 * D ≤ _; omega⟩
    obtain ⟨-, -, hat, -⟩ := sd_obj hR hr (by have := am_own_lt q hq; omega)
    obtain ⟨rr, hcr, -⟩ := hR.1 _ _ hat
    have hC : (am_nm q).cls = rr.1 := by rw [mf6, ← hc']; exact am_cn_x _ _ hcr
    have hrec := va_recv hSt.1 hR.1 hcr hat
    rw [← hC] at hrec
    refine sd_goon (va_runV (C := (am_nm q).cls) (As := vs.map (sd_cv G)) (rest := rest.map (sd_cv G)) ⟨hx, hb, rfl, hown, hts⟩ hM ⟨callB_of (ws' := am_gt) (am_na q - 1) hts (sd_wsm_good hq) rfl rfl rfl (hts _ mf2) (hts _ (am_is_in hlk)) ⟨mf7, mf8, by rw [mf11, if_neg (by rw [hsta]; decide)]⟩ hrm, hts _ (mf4 hsta), hts _ (mf5 hsta hin0)⟩ ⟨sd_blind, hrec, sd_pre Cx hR hS hz⟩ rfl (by rw [List.length_map]; simp at hlen; omega) hl.1 (by simp [sd_cv, va_rf]) (lv_room (sd_rest hrl)) hd ⟨by omega, by omega⟩) hS (fun v h' H1 locs1 g1 g2 g3 g4 => ?_)
    exact sd_back hl hml hol hor h1 hlim g2 g3 g4 g1
   · exact a.elim
  · exact a.elim
theorem sd_l_cli2 (Cx : sd_Cx G p l e R s mm args below meth c m lim n0 D) (hCl : sd_Cl G l D) {ix q : Nat} (hml0 : am_ml (am_own m) ix = some (2, q)) (hd : decode (am_code m) pc = .ok (.invokespecial ix, 3)) (a : am_cli lim (am_M D) (sd_XX G p l e R s mm args below meth c Q lim n0) pc al st n h q) : sd_XX G p l e R s mm args below meth c Q lim n0 pc al st n h := by
  obtain ⟨hx, hb, hown, hts, hSt, hini, hsz, hfr, hlo, hce, hsl⟩ := id Cx
  obtain ⟨i, hi⟩ := am_mlk hml0
  simp only [am_mlC, Bool.and_eq_true, decide_eq_true_eq, beq_iff_eq] at hi
  obtain ⟨⟨⟨hq, hlk⟩, hsta⟩, hin0⟩ := hi
  unfold am_cli at a
  split at a
  · next r vs rest htk =>
    intro H locs ls hR hS hl hml hol hos h1 h2
    obtain ⟨hst, hlen⟩ := am_tk_0 htk
    subst hst
    refine sd_sized Cx hR hS h1 (fun hz => ?_)
    obtain ⟨⟨hrl, hsl2⟩, hlim, hcall⟩ := a
    have hov : sd_oks (Sum.inr (Sum.inr (some r)) :: vs) := fun v hv => hos v (List.mem_append_left _ (List.mem_reverse.mpr hv))
    have hor : sd_oks rest := fun v hv => hos v (List.mem_append_right _ hv)
    have hM := hCl q (Sum.inr (Sum.inr (some r)) :: vs) n h _ hq hcall hov hsl2
    obtain ⟨mf1, mf2, mf3, mf4, mf5, mf6, mf7, mf8, mf9, mf10, mf11, mf12, mf13, mf14⟩ := am_mf hq
    have hrm : (sd_rm D q).frames + 1 ≤ R.frames ∧ 8 + (am_mx q + 11) + (sd_rm D q).locals ≤ R.locals := ⟨hfr, by show 8 + (am_mx q + 11) + 38 * D ≤ _; omega⟩
    have hre := am_ire q hq hin0
    have hret : am_wsm q = Jvm.Cond.code (am_nm q) (am_code q) (am_mx q) none :: am_gt := by unfold am_wsm; rw [hre]
    refine sd_goon (va_runI (As := vs.map (sd_cv G)) (rest := rest.map (sd_cv G)) ⟨hx, hb, rfl, hown, hts⟩ hM ⟨callB_of (ws' := am_gt) (am_na q - 1) hts (sd_wsm_good hq) hret rfl rfl (hts _ mf2) (hts _ (am_is_in hlk)) ⟨mf7, mf8, by rw [mf11, if_neg (by rw [hsta]; decide)]⟩ hrm, mf14.mp hin0, hts _ (mf4 hsta)⟩ ⟨sd_blind, sd_pre Cx hR hS hz⟩ rfl (by rw [List.length_map]; simp at hlen; omega) hl.1 (by simp [sd_cv, va_rf]) (lv_room (sd_rest hrl)) hd ⟨by omega, by omega⟩) hS (fun v h' H1 locs1 g1 g2 g3 g4 => ?_)
    exact sd_back hl hml hol hor h1 hlim g2 g3 g4 g1
  · exact a.elim
theorem sd_l_cli4 (Cx : sd_Cx G p l e R s mm args below meth c m lim n0 D) (hCl : sd_Cl G l D) {ix q : Nat} (hml0 : am_ml (am_own m) ix = some (4, q)) (hd : decode (am_code m) pc = .ok (.invokespecial ix, 3)) (a : am_cli lim (am_M D) (sd_XX G p l e R s mm args below meth c Q lim n0) pc al st n h q) : sd_XX G p l e R s mm args below meth c Q lim n0 pc al st n h := by
  obtain ⟨hx, hb, hown, hts, hSt, hini, hsz, hfr, hlo, hce, hsl⟩ := id Cx
  obtain ⟨i, hi⟩ := am_mlk hml0
  simp only [am_mlC, Bool.and_eq_true, decide_eq_true_eq, beq_iff_eq] at hi
  obtain ⟨⟨⟨hq, hlk⟩, hsta⟩, hin0⟩ := hi
  unfold am_cli at a
  split at a
  · next r vs rest htk =>
    intro H locs ls hR hS hl hml hol hos h1 h2
    obtain ⟨hst, hlen⟩ := am_tk_0 htk
    subst hst
    refine sd_sized Cx hR hS h1 (fun hz => ?_)
    obtain ⟨⟨hrl, hsl2⟩, hlim, hcall⟩ := a
    have hov : sd_oks (Sum.inr (Sum.inr (some r)) :: vs) := fun v hv => hos v (List.mem_append_left _ (List.mem_reverse.mpr hv))
    have hor : sd_oks rest := fun v hv => hos v (List.mem_append_right _ hv)
    have hM := hCl q (Sum.inr (Sum.inr (some r)) :: vs) n h _ hq hcall hov hsl2
    obtain ⟨mf1, mf2, mf3, mf4, mf5, mf6, mf7, mf8, mf9, mf10, mf11, mf12, mf13, mf14⟩ := am_mf hq
    have hrm : (sd_rm D q).frames + 1 ≤ R.frames ∧ 8 + (am_mx q + 11) + (sd_rm D q).locals ≤ R.locals := ⟨hfr, by show 8 + (am_mx q + 11) + 38 * D ≤ _; omega⟩
    have hre := am_ire q hq hin0
    have hret : am_wsm q = Jvm.Cond.code (am_nm q) (am_code q) (am_mx q) none :: am_gt := by unfold am_wsm; rw [hre]
    refine sd_goon (va_runIN (As := vs.map (sd_cv G)) (rest := rest.map (sd_cv G)) ⟨hx, hb, rfl, hown, hts⟩ hM ⟨va_cnB (ws' := am_gt) (am_na q - 1) hts (sd_wsm_good hq) hret rfl rfl (hSt.2.1 _ hlk) (hts _ mf2) ⟨mf7, mf8, by rw [mf11, if_neg (by rw [hsta]; decide)]⟩ hrm, mf14.mp hin0, hts _ (mf4 hsta)⟩ ⟨sd_blind, sd_pre Cx hR hS hz⟩ rfl (by rw [List.length_map]; simp at hlen; omega) hl.1 (by simp [sd_cv, va_rf]) (lv_room (sd_rest hrl)) hd ⟨by omega, by omega⟩) hS (fun v h' H1 locs1 g1 g2 g3 g4 => ?_)
    exact sd_back hl hml hol hor h1 hlim g2 g3 g4 g1
  · exact a.elim
theorem sd_l_irt {K : am_K} (hRt : sd_Rt G p l e R s mm args below meth c Q m lim n0 K) (hd : decode (am_code m) pc = .ok (.ireturn, 1)) (a : am_irt m lim K st n h) : sd_XX G p l e R s mm args below meth c Q lim n0 pc al st n h := by
  unfold am_irt at a
  split at a
  · next x =>
    split at a
    · next hrt =>
      intro H locs ls hR hS hl hml hol hos h1 h2
      exact hRt (some (Sum.inl x)) n h H locs ls pc .ireturn hd (Or.inr ⟨hrt, a.1⟩) a.2.1 a.2.2 hR hS (fun v hv => by cases hv; exact (sd_oks_cons.mp hos).1)
    · next hrt =>
      intro H locs ls hR hS hl hml hol hos h1 h2
      exact hRt (some (Sum.inl x)) n h H locs ls pc .ireturn hd (Or.inl hrt) a.1 a.2 hR hS (fun v hv => by cases hv; exact (sd_oks_cons.mp hos).1)
    · exact a.elim
  · exact a.elim
theorem sd_l_lrt {K : am_K} (hRt : sd_Rt G p l e R s mm args below meth c Q m lim n0 K) (hd : decode (am_code m) pc = .ok (.lreturn, 1)) (a : am_lrt m lim K st n h) : sd_XX G p l e R s mm args below meth c Q lim n0 pc al st n h := by
  unfold am_lrt at a
  split at a
  · next x =>
    split at a
    · next hrt =>
      intro H locs ls hR hS hl hml hol hos h1 h2
      exact hRt (some (Sum.inr (Sum.inl x))) n h H locs ls pc .lreturn hd hrt a.1 a.2 hR hS (fun v hv => by cases hv; exact (sd_oks_cons.mp hos).1)
    · exact a.elim
  · exact a.elim
theorem sd_l_art {K : am_K} (hRt : sd_Rt G p l e R s mm args below meth c Q m lim n0 K) (hd : decode (am_code m) pc = .ok (.areturn, 1)) (a : am_art m lim K st n h) : sd_XX G p l e R s mm args below meth c Q lim n0 pc al st n h := by
  unfold am_art at a
  split at a
  · next x =>
    split at a
    · next hrt =>
      intro H locs ls hR hS hl hml hol hos h1 h2
      exact hRt (some (Sum.inr (Sum.inr x))) n h H locs ls pc .areturn hd hrt a.1 a.2 hR hS (fun v hv => by cases hv; exact (sd_oks_cons.mp hos).1)
    · exact a.elim
  · exact a.elim
theorem sd_l_vrt {K : am_K} (hRt : sd_Rt G p l e R s mm args below meth c Q m lim n0 K) (hd : decode (am_code m) pc = .ok (.return_, 1)) (a : am_vrt m lim K st n h) : sd_XX G p l e R s mm args below meth c Q lim n0 pc al st n h := by
  unfold am_vrt at a
  split at a
  · split at a
    · next hrt =>
      intro H locs ls hR hS hl hml hol hos h1 h2
      exact hRt none n h H locs ls pc .return_ hd hrt a.1 a.2 hR hS (fun v hv => by cases hv)
    · exact a.elim
  · exact a.elim
theorem am_dc_len {k : Nat} {i : Instr} (hd : am_dc m pc = some i) (hk : ∀ len, am_ln i len = true → len = k) : decode (am_code m) pc = .ok (i, k) := by
  unfold am_dc at hd
  split at hd
  · next i' len hq =>
    split at hd
    · next hl =>
      cases hd
      rw [hq, hk len hl]
    · cases hd
  · cases hd
theorem am_dc_any {i : Instr} (hd : am_dc m pc = some i) : ∃ len, decode (am_code m) pc = .ok (i, len) := by
  unfold am_dc at hd
  split at hd
  · next i' len hq =>
    split at hd
    · cases hd
      exact ⟨len, hq⟩
    · cases hd
  · cases hd
theorem sd_ln {a b : Nat} (h : (a == b) = true) : a = b := by simpa using h
set_option maxHeartbeats 4000000 in
theorem sd_step {K : am_K} (Cx : sd_Cx G p l e R s mm args below meth c m lim n0 D) (hCl : sd_Cl G l D) (hRt : sd_Rt G p l e R s mm args below meth c Q m lim n0 K) {i : Instr} (hd : am_dc m pc = some i) (a : am_stp m lim (am_M D) K (sd_XX G p l e R s mm args below meth c Q lim n0) (sd_XX G p l e R s mm args below meth c Q lim n0) pc al st n h i) : sd_XX G p l e R s mm args below meth c Q lim n0 pc al st n h := by
  cases i with
  | iconst x => exact sd_l_iconst Cx (am_dc_len hd (fun _ q => sd_ln q)) a
  | lconst x => exact sd_l_lconst Cx (am_dc_len hd (fun _ q => sd_ln q)) a
  | aconst_null => exact sd_l_anull Cx (am_dc_len hd (fun _ q => sd_ln q)) a
  | iload_n i => exact sd_l_iload_n Cx (am_dc_len hd (fun _ q => sd_ln q)) a
  | lload_n i => exact sd_l_lload_n Cx (am_dc_len hd (fun _ q => sd_ln q)) a
  | aload_n i => exact sd_l_aload_n Cx (am_dc_len hd (fun _ q => sd_ln q)) a
  | istore_n i => exact sd_l_istore_n Cx (am_dc_len hd (fun _ q => sd_ln q)) a
  | astore_n i => exact sd_l_astore_n Cx (am_dc_len hd (fun _ q => sd_ln q)) a
  | iadd => exact sd_l_iadd Cx (am_dc_len hd (fun _ q => sd_ln q)) a
  | isub => exact sd_l_isub Cx (am_dc_len hd (fun _ q => sd_ln q)) a
  | imul => exact sd_l_imul Cx (am_dc_len hd (fun _ q => sd_ln q)) a
  | iand => exact sd_l_iand Cx (am_dc_len hd (fun _ q => sd_ln q)) a
  | ior => exact sd_l_ior Cx (am_dc_len hd (fun _ q => sd_ln q)) a
  | ixor => exact sd_l_ixor Cx (am_dc_len hd (fun _ q => sd_ln q)) a
  | ishl => exact sd_l_ishl Cx (am_dc_len hd (fun _ q => sd_ln q)) a
  | ishr => exact sd_l_ishr Cx (am_dc_len hd (fun _ q => sd_ln q)) a
  | iushr => exact sd_l_iushr Cx (am_dc_len hd (fun _ q => sd_ln q)) a
  | idiv => exact sd_l_idiv Cx (am_dc_len hd (fun _ q => sd_ln q)) a
  | irem => exact sd_l_irem Cx (am_dc_len hd (fun _ q => sd_ln q)) a
  | ldiv => exact sd_l_ldiv Cx (am_dc_len hd (fun _ q => sd_ln q)) a
  | lrem => exact sd_l_lrem Cx (am_dc_len hd (fun _ q => sd_ln q)) a
  | lcmp => exact sd_l_lcmp Cx (am_dc_len hd (fun _ q => sd_ln q)) a
  | i2b => exact sd_l_i2b Cx (am_dc_len hd (fun _ q => sd_ln q)) a
  | i2s => exact sd_l_i2s Cx (am_dc_len hd (fun _ q => sd_ln q)) a
  | i2l => exact sd_l_i2l Cx (am_dc_len hd (fun _ q => sd_ln q)) a
  | dup => exact sd_l_dup Cx (am_dc_len hd (fun _ q => sd_ln q)) a
  | dup2 => exact sd_l_dup2 Cx (am_dc_len hd (fun _ q => sd_ln q)) a
  | iaload => exact sd_l_iald Cx (am_dc_len hd (fun _ q => sd_ln q)) a
  | iastore => exact sd_l_iast Cx (am_dc_len hd (fun _ q => sd_ln q)) a
  | aaload => exact sd_l_aald Cx (am_dc_len hd (fun _ q => sd_ln q)) a
  | aastore => exact sd_l_aast Cx (am_dc_len hd (fun _ q => sd_ln q)) a
  | arraylength => exact sd_l_alen Cx (am_dc_len hd (fun _ q => sd_ln q)) a
  | bipush x => exact sd_l_bipush Cx (am_dc_len hd (fun _ q => sd_ln q)) a
  | iload i => exact sd_l_iload Cx (am_dc_len hd (fun _ q => sd_ln q)) a
  | lload i => exact sd_l_lload Cx (am_dc_len hd (fun _ q => sd_ln q)) a
  | aload i => exact sd_l_aload Cx (am_dc_len hd (fun _ q => sd_ln q)) a
  | istore i => exact sd_l_istore Cx (am_dc_len hd (fun _ q => sd_ln q)) a
  | astore i => exact sd_l_astore Cx (am_dc_len hd (fun _ q => sd_ln q)) a
  | lstore i => exact sd_l_lstore Cx (am_dc_len hd (fun _ q => sd_ln q)) a
  | newarray t => exact sd_l_nea Cx (am_dc_len hd (fun _ q => sd_ln q)) a
  | sipush x => exact sd_l_sipush Cx (am_dc_len hd (fun _ q => sd_ln q)) a
  | ldc_w i => exact sd_l_ldc Cx (am_dc_len hd (fun _ q => sd_ln q)) a
  | ldc2_w i => exact sd_l_ldc2 Cx (am_dc_len hd (fun _ q => sd_ln q)) a
  | iinc i k => exact sd_l_iinc Cx (am_dc_len hd (fun _ q => sd_ln q)) a
  | goto o => exact sd_l_goto Cx (am_dc_len hd (fun _ q => sd_ln q)) a
  | if_icmp c o => exact sd_l_if2 Cx (am_dc_len hd (fun _ q => sd_ln q)) a
  | ifCond c o => exact sd_l_if1 Cx (am_dc_len hd (fun _ q => sd_ln q)) a
  | ifnull o => exact sd_l_ifn Cx (am_dc_len hd (fun _ q => sd_ln q)) a
  | ifnonnull o => exact sd_l_ifnn Cx (am_dc_len hd (fun _ q => sd_ln q)) a
  | getfield i => exact sd_l_gf Cx (am_dc_len hd (fun _ q => sd_ln q)) a
  | putfield i => exact sd_l_pf Cx (am_dc_len hd (fun _ q => sd_ln q)) a
  | new i => exact sd_l_new Cx (am_dc_len hd (fun _ q => sd_ln q)) a
  | anewarray i => exact sd_l_neq Cx (am_dc_len hd (fun _ q => sd_ln q)) a
  | tableswitch d lo hi os =>
    obtain ⟨len, hd⟩ := am_dc_any hd
    exact sd_l_tsw Cx hd a
  | lookupswitch d ps =>
    obtain ⟨len, hd⟩ := am_dc_any hd
    exact sd_l_lsw Cx hd a
  | ireturn => exact sd_l_irt hRt (am_dc_len hd (fun _ q => sd_ln q)) a
  | lreturn => exact sd_l_lrt hRt (am_dc_len hd (fun _ q => sd_ln q)) a
  | areturn => exact sd_l_art hRt (am_dc_len hd (fun _ q => sd_ln q)) a
  | return_ => exact sd_l_vrt hRt (am_dc_len hd (fun _ q => sd_ln q)) a
  | invokestatic ix =>
    have hd := am_dc_len hd (k := 3) (fun _ q => sd_ln q)
    have a : am_ivs m lim (am_M D) _ _ pc al st n h ix := a
    unfold am_ivs at a
    split at a
    · next hm => exact sd_l_acp Cx hm hd a
    · next hm => exact sd_l_cls1 Cx hCl hm hd a
    · next hm => exact sd_l_cls3 Cx hCl hm hd a
    · exact a.elim
  | invokevirtual ix =>
    have hd := am_dc_len hd (k := 3) (fun _ q => sd_ln q)
    have a : am_ivv m lim (am_M D) _ pc al st n h ix := a
    unfold am_ivv at a
    split at a
    · next hm => exact sd_l_clv Cx hCl hm hd a
    · exact a.elim
  | invokespecial ix =>
    have hd := am_dc_len hd (k := 3) (fun _ q => sd_ln q)
    have a : am_ivi m lim (am_M D) _ _ pc al st n h ix := a
    unfold am_ivi at a
    split at a
    · next hm => exact sd_l_obi Cx hm hd a
    · next hm => exact sd_l_cli2 Cx hCl hm hd a
    · next hm => exact sd_l_cli4 Cx hCl hm hd a
    · exact a.elim
  | _ => exact a.elim
theorem sd_sound {K : am_K} (Cx : sd_Cx G p l e R s mm args below meth c m lim n0 D) (hCl : sd_Cl G l D) (hRt : sd_Rt G p l e R s mm args below meth c Q m lim n0 K) (a : am_W m lim (am_M D) K pc al st n h) : sd_XX G p l e R s mm args below meth c Q lim n0 pc al st n h := by
  refine a (sd_XX G p l e R s mm args below meth c Q lim n0) (fun pc al st n h b => ?_) (fun pc al al' st n h hle b => ?_)
  · unfold am_F at b
    split at b
    · next i hi => exact sd_step Cx hCl hRt hi b
    · exact b.elim
  · obtain ⟨g1, g2⟩ := am_le_spec hle
    intro H locs ls hR hS hl hml hol hos h1 h2
    exact b H locs ls hR hS (sd_lv_less hl g2) (g1.trans hml) (fun j w hj => hol j w (g2 j w hj)) hos h1 h2
end
