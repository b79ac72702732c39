/-! THE CLAIM OUT OF ONE WALK OF THE LAW'S BODY. Your part is whole_start (and what it stands on); all else here is the same for every law, but numbers. -/
def R_law : String := "NeededAnswersLaw"
def lw_P (b : Addr) (xs : List Int32) (args : Array Value) (s : State) : Prop := args = #[.ref b] ∧ s.IntsAt b xs ∧ xs.length ≤ 3072 ∧ (Jvm.Cond.and given_1 narrow_1).before args s = true
def lw_Q (_ : Array Value) (s : State) (o : Outcome) (t : State) : Prop := o = .returned (some (.int 1)) ∧ Framed s o t [] 600000 7302250
def lw_Z (below : List Frame) (a : Array Value) (s : State) : State → Prop := fun t => ∃ o, t.status = .running ∧ Ended t below o ∧ lw_Q a s o t
/-- the law's own end, with 1 on the stack, nothing written that was there before, its room as the claim has it -/
theorem lw_ret {p : Program} {l : Launch} {e : Env} {s : State} {m : MethodId} {below : List Frame} {meth : Method} {c : Code} {b : Nat} (hx : p.tables.exec = Jvm.exec) (hb : c.code = code) (hr : meth.sig.returnType = ret) (hlocks : meth.locks = false) {pc : Nat} {H : Heap} {ls : Array Slot} (hdg : decode code pc = .ok (.ireturn, 1)) : W p l e room_1 s m #[Value.ref b] below meth c H [] 600000 7302250 (lw_Z below #[Value.ref b] s) (F0 m pc ls [.int 1]) := by
  intro T hT X
  obtain ⟨fs, hret, hrun, hended, hW, hframe⟩ := X.leave (v := some (.int 1)) (hlocks := hlocks) (fun h => by rw [hr] at h; cases h)
  have hmeth' : T.vm.method? m = some meth := X.method'
  refine ⟨T.setFrames fs, ?_, .returned (some (.int 1)), hrun, hended, rfl, ⟨_, rfl⟩, hW, hframe⟩
  jvm_step X.here [X.here.top, hx, hb, hdg, hmeth', hr, ret, narrow_b1]
  (try refine ⟨rfl, ?_⟩); (try refine ⟨rfl, ?_⟩)
  first | (intro acts; rw [hret _ acts rfl rfl rfl]) | rw [hret _ _ rfl rfl rfl]
  exact Steps.refl _
/-- what holds at the law's entry: the machine, the code, the tables' words (any of lw_tbl by 'hts w (by decide +kernel)'), the script of L ints xs at the cell b, what the Statement gives of the start (any of its parts by flat_of_before) -/
def lw_At (p : Program) (s : State) (m : MethodId) (meth : Method) (c : Code) (b L : Nat) (xs : Nat → Int32) : Prop :=
  p.tables.exec = Jvm.exec ∧ c.code = code ∧ meth.sig.returnType = ret ∧ c.maxLocals = 4 ∧ s.vm.findClass R_law = some m.cls ∧ (∀ w ∈ lw_tbl, w.before #[Value.ref b] s = true) ∧ va_X b L xs s s.heap ∧ b < s.heap.size ∧ meth.locks = false ∧ (Jvm.Cond.and given_1 narrow_1).before #[Value.ref b] s = true

theorem am_inst : ∀ (ci : Nat) (r : vw_C), am_cl[ci]? = some r → Jvm.Cond.instantiable r.1 r.2.2 ∈ am_gt
  | 0, _, h => by cases h; exact am_is_in (i := 106) (by decide +kernel)
  | 1, _, h => by cases h; exact am_is_in (i := 195) (by decide +kernel)
  | 2, _, h => by cases h; exact am_is_in (i := 72) (by decide +kernel)
  | 3, _, h => by cases h; exact am_is_in (i := 140) (by decide +kernel)
  | 4, _, h => by cases h; exact am_is_in (i := 226) (by decide +kernel)
  | 5, _, h => by cases h; exact am_is_in (i := 97) (by decide +kernel)
  | 6, _, h => by cases h; exact am_is_in (i := 63) (by decide +kernel)
  | 7, _, h => by cases h; exact am_is_in (i := 663) (by decide +kernel)
  | _ + 8, _, h => by simp [am_cl] at h
/-- every call of the abstract machine is one of the machine's -/
theorem sd_met (G : sd_T) (l : Launch) : ∀ D, sd_Cl G l D
  | 0 => fun _ _ _ _ _ _ a => a.elim
  | D + 1 => fun q vs n h K hq a hov hsl => by
    have IH := sd_met G l D
    obtain ⟨mf1, mf2, mf3, mf4, mf5, mf6, mf7, mf8, mf9, mf10, mf11, mf12, mf13, mf14⟩ := am_mf hq
    refine va_MetF (cc := am_code q) (maxL := am_mx q) (ret := am_re q) (ws' := am_gt) mf9 rfl ?_
    intro p e s m args below meth c s₁ B hml hv
    obtain ⟨rfl, hz, hR, hSt⟩ := hv
    have hts := atoms_spec (ws := am_wsm q) B.pre
    have hown : s.vm.findClass (am_nm q).cls = some m.cls := findClass_of_methodNamed B.named
    have hlocks := B.notSynchronized
    have hname := (name_of_methodNamed B.named B.method).1
    have hr := B.returns
    have hb := B.bytes
    have hx := B.exec
    have Cx : sd_Cx G p l e (sd_rm (D + 1) q) s m (vs.map (sd_cv G)).toArray below meth c q (n + am_co q) n D :=
      ⟨hx, hb, by rw [← mf6]; exact hown, fun w hw => hts w (List.mem_cons_of_mem _ hw), hSt, fun hi => hname.trans (mf14.mp hi), hz, Nat.le_refl _, Nat.le_refl _, by show n + am_co q - n ≤ am_co q; omega, by show 3500 * (n + am_co q - n) ≤ 3500 * am_co q; omega⟩
    have hRt : sd_Rt G p l e (sd_rm (D + 1) q) s m (vs.map (sd_cv G)).toArray below meth c (MQ below (sd_Qc G K (n + am_co q)) (vs.map (sd_cv G)).toArray s (am_co q) (3500 * am_co q) (sd_A G)) q (n + am_co q) n K := by
      intro x n' h' H locs ls pc i hd hi hn' hK hR' hS hok
      subst hn'
      have e1 : n + am_co q - n = am_co q := by omega
      rw [e1]
      have hq2 : ∀ t : State, t.heap = H → s.WarmedH t.vm → sd_Qc G K (n + am_co q) (vs.map (sd_cv G)).toArray s (.returned (x.map (sd_cv G))) t := fun t ht _ => ⟨⟨x, h', rfl, hK, by rw [ht]; exact hR', hok⟩, hS.F ht⟩
      have hrt := mf13
      unfold sd_ret at hi
      split at hi
      · next y =>
        rcases hi with hi | ⟨hi, hy⟩
        · rw [hi] at hrt
          have hre : am_re q = some .int := by
            revert hrt
            cases am_re q with
            | none => intro z; cases z
            | some t => cases t <;> intro z <;> first | rfl | cases z
          exact W.iret hx hb (hr.trans hre) hq2 hS.2.2 hd
        · rw [hi] at hrt
          have hre : am_re q = some .boolean := by
            revert hrt
            cases am_re q with
            | none => intro z; cases z
            | some t => cases t <;> intro z <;> first | rfl | cases z
          exact W.zret hx hb (hr.trans hre) (by rcases hy with rfl | rfl <;> rfl) hq2 hS.2.2 hd
      · rw [hi] at hrt
        have hre : am_re q = some .long := by
          revert hrt
          cases am_re q with
          | none => intro z; cases z
          | some t => cases t <;> intro z <;> first | rfl | cases z
        exact W.lret hx hb (hr.trans hre) hq2 hS.2.2 hd
      · next r =>
        rw [hi] at hrt
        have hre : ∃ C, am_re q = some (.object C) := by
          revert hrt
          cases am_re q with
          | none => intro z; cases z
          | some t => cases t <;> intro z <;> first | exact ⟨_, rfl⟩ | cases z
        obtain ⟨C, hre⟩ := hre
        exact W.aret hx hb (hr.trans hre) (Or.inl ⟨C, rfl⟩) (by
          cases r with
          | none => exact Or.inl rfl
          | some a => exact Or.inr ⟨_, rfl⟩) hq2 hS.2.2 hd
      · rw [hi] at hrt
        have hre : am_re q = none := by
          revert hrt
          cases am_re q with
          | none => intro _; rfl
          | some t => cases t <;> intro z <;> cases z
        exact W.vret hx hb (hr.trans hre) hq2 hS.2.2 hd
      · exact hi.elim
    have hsl2 : (lg_sl (vs.map (sd_cv G))).length ≤ am_mx q := by rw [am_sl_len]; exact hsl
    have hl := lv_entry (vs.map (sd_cv G)) (n := am_mx q) hsl2
    rw [lg_entry_eq]
    generalize (lg_sl (vs.map (sd_cv G)) ++ List.replicate (am_mx q - (lg_sl (vs.map (sd_cv G))).length) Slot.unset).toArray = ls at hl ⊢
    obtain ⟨g1, g2⟩ := am_pad_spec (am_mx q) (am_sl vs) hsl
    have key := sd_sound Cx IH hRt a s.heap [] ls hR va_S.rf (by
      rw [hml]
      refine lv_incl hl (fun z hz => ?_)
      obtain ⟨j, v, h1, rfl⟩ := sd_lv_mem hz
      exact (am_sl_mem (i := 0) (g2 j v h1)).1) (g1.trans hml.symm) (fun j w hj => hov w (am_sl_mem (G := G) (i := 0) (g2 j w hj)).2) sd_oks_nil (Nat.le_refl n) (Nat.le_add_right _ _)
    rw [Nat.sub_self, Nat.mul_zero] at key
    exact key
/-- the heap at the law's start: the script alone -/
def am_h0 (scr : List Int) : am_H := fun r => if r = 0 then Sum.inr (Sum.inl scr) else sd_dead
set_option maxHeartbeats 4000000 in
theorem sd_law (hW : ∀ scr : List Int, scr.length ≤ 3072 → (∀ x ∈ scr, inR x) → am_W am_N 83 (am_M 9) (fun v _ _ => v = some (Sum.inl 1)) 0 [some (Sum.inr (Sum.inr (some 0))), none, none, none] [] 0 (am_h0 scr))
    {p : Program} {e : Env} {s : State} {m : MethodId} {below : List Frame} {meth : Method} {c : Code} (l : Launch) {b L : Nat} {xs : Nat → Int32} (hL : L ≤ 3072) (C0 : lw_At p s m meth c b L xs) : W p l e room_1 s m #[Value.ref b] below meth c s.heap [] 0 0 (lw_Z below #[Value.ref b] s) (entryFrame m ([Value.ref b] : List Value).toArray 4) := by
  obtain ⟨hx, hb, hr, hml, hown, hts, hX, hbl, hlocks, hgv⟩ := id C0
  have htg : ∀ w ∈ am_gt, w.before #[Value.ref b] s = true := fun w hw => hts w (List.mem_filter.mp hw).1
  have hkn : ∀ k : Nat, ∃ (cC : ClassId) (iS : Nat → Nat), ∀ q : vw_C, am_cl[k]? = some q → u_Kn s q.1 q.2.1 q.2.2 cC iS := by
    intro k
    cases hk : am_cl[k]? with
    | none => exact ⟨0, fun _ => 0, fun q h => by cases h⟩
    | some q =>
      obtain ⟨cC, iS, hh⟩ := u_known (C := q.1) (T := q.2.1) (N := q.2.2) (n := q.2.2) htg (am_cf k q hk).1 (htg _ (am_inst k q hk))
      exact ⟨cC, iS, fun q' h => by cases h; exact hh⟩
  have hqq : ∀ k : Nat, ∃ cA : ClassId, am_isq k = true → ArrOfT s cA (.object (am_cn k)) ∧ va_RA s cA (.object (am_cn k)) := by
    intro k
    by_cases hk : am_isq k = true
    · obtain ⟨comp, cA, kA, h1, h2, h3, h4, h5⟩ := Cond.arrayOver_spec (hts _ (am_ao_in k hk))
      exact ⟨cA, fun _ => ⟨fun N z => ⟨(fun k h => by cases h), kA, h3, comp, h4⟩, kA, comp, h3, h4, h1, h5⟩⟩
    · exact ⟨0, fun h => absurd h hk⟩
  obtain ⟨cI, kI, comp, hfI, hkI, hkindI⟩ := Cond.arrayClass_spec (htg _ am_w_arr)
  obtain ⟨scr, hscr⟩ : ∃ scr : List Int, scr = (List.range L).map (fun j => (xs j).toInt) := ⟨_, rfl⟩
  have hlen : scr.length = L := by rw [hscr]; simp
  have hin : ∀ x ∈ scr, inR x := fun x hx => by
    rw [hscr] at hx
    obtain ⟨j, -, rfl⟩ := List.mem_map.mp hx
    exact sd_I_in _
  have hget : ∀ j, j < L → Int32.ofInt (scr.getD j 0) = xs j := fun j hj => by
    rw [hscr, List.getD_eq_getElem?_getD, List.getElem?_map, List.getElem?_range hj]
    exact Int32.ofInt_toInt _
  obtain ⟨G, hG⟩ : ∃ G : sd_T, G = ((fun k => Classical.choose (hkn k), fun k => Classical.choose (Classical.choose_spec (hkn k))), cI, fun k => Classical.choose (hqq k), b, s.heap.size, scr) := ⟨_, rfl⟩
  have hGo : sd_o G = s.heap.size := by rw [hG]
  have hGb : sd_b G = b := by rw [hG]
  have hGs : sd_sc G = scr := by rw [hG]
  have hGi : sd_ai G = cI := by rw [hG]
  have hGq : ∀ k, am_isq k = true → ArrOfT s (sd_aq G k) (.object (am_cn k)) ∧ va_RA s (sd_aq G k) (.object (am_cn k)) := fun k hk => by
    rw [hG]
    exact Classical.choose_spec (hqq k) hk
  have hGk : ∀ (k : Nat) (q : vw_C), am_cl[k]? = some q → u_Kn s q.1 q.2.1 q.2.2 ((sd_D G).1 k) ((sd_D G).2 k) := fun k q hq => by
    rw [hG]
    exact Classical.choose_spec (Classical.choose_spec (hkn k)) q hq
  clear hG
  have hSt : sd_St G s := by
    refine ⟨⟨hGk, fun k q hk => ?_⟩, fun w hw => ?_, fun k hk => va_AO.of (hts _ (am_ao_in k hk)), ?_, by rw [hGb, hGo]; exact hbl, by rw [hGs, hlen]; exact hL⟩
    · match k, hk with
      | 0, hk =>
        cases hk
        rw [hGi]
        exact ⟨fun n z => ⟨fun k h => (by cases h), kI, hkI, comp, hkindI⟩, hfI⟩
      | 1, hk => cases hk; exact hGq _ rfl
      | 2, hk => cases hk; exact hGq _ rfl
      | 3, hk => cases hk; exact hGq _ rfl
      | k + 4, hk => simp [sd_tys] at hk
    · have h1 := hts w (am_nw_in w hw)
      obtain ⟨a', i, y, hh, rfl⟩ := am_nw_ml w hw
      exact va_Nw.of rfl h1
    · rw [hGb, hGs, hlen]
      obtain ⟨cell, h1, h2, h3, h4, h5⟩ := hX
      exact ⟨cell, h1, h2, h3, h4, fun j hj => by rw [h5 j hj, ← hget j hj]⟩
  have hR : sd_R G 0 (am_h0 scr) s.heap := by
    refine ⟨fun k q h => by simp [sd_ws] at h, by rw [hGs]; rfl, fun r hr => if_neg (by omega), fun r => ?_⟩
    unfold am_h0
    split
    · exact hin
    · intro v hv; cases hv
  have Cx : sd_Cx G p l e room_1 s m #[Value.ref b] below meth c am_N 83 0 9 :=
    ⟨hx, hb, hown, htg, hSt, (fun h => by cases h), (by rw [hGo]; rfl), by decide, by decide, by decide, by decide⟩
  have hRt : sd_Rt G p l e room_1 s m #[Value.ref b] below meth c (lw_Z below #[Value.ref b] s) am_N 83 0 (fun v _ _ => v = some (Sum.inl 1)) := by
    intro x n' h' H locs ls pc i hd hi hn' hK hR' hS hok
    subst hK
    have hii : i = .ireturn := by
      unfold sd_ret at hi
      split at hi
      · rfl
      · next hz => cases hz
      · next hz => cases hz
      · next hz => cases hz
      · exact hi.elim
    subst hii
    refine va_forget (fun q hq => by rw [← hGo]; exact hS.2.2 q hq) ?_
    refine W.widen (k := 600000) (n := 7302250) (by omega) (by omega) ?_
    exact lw_ret hx hb hr hlocks hd
  have hl := lv_entry ([.ref b]) (n := 4) (Nat.le_of_ble_eq_true rfl)
  rw [lg_entry_eq]
  generalize (lg_sl ([.ref b]) ++ List.replicate (4 - (lg_sl ([.ref b])).length) Slot.unset).toArray = ls at hl ⊢
  have key := sd_sound Cx (sd_met G l 9) hRt (hW scr (by rw [hlen]; exact hL) hin) s.heap [] ls hR va_S.rf (by
    rw [hml]
    refine lv_incl hl (fun z hz => ?_)
    have : sd_lv G 0 [some (Sum.inr (Sum.inr (some 0))), none, none, none] = [(0, Value.ref b)] := by
      show [(0, Value.ref (sd_ad G 0))] = _
      rw [show sd_ad G 0 = b from hGb]
    rw [this] at hz
    exact hz) hml.symm (fun j w hj => by
      match j, hj with
      | 0, hj => cases hj; trivial
      | 1, hj => cases hj
      | 2, hj => cases hj
      | 3, hj => cases hj
      | j + 4, hj => cases hj) sd_oks_nil (Nat.le_refl 0) (Nat.zero_le _)
  exact key
