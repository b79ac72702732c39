/-! SOUNDNESS 3: one step of the abstract machine is one of the machine's -/
def sd_tys (G : sd_T) : List (ClassId × FieldType) := [(sd_ai G, .int), (sd_aq G 0, .object (am_cn 0)), (sd_aq G 2, .object (am_cn 2)), (sd_aq G 3, .object (am_cn 3))]
def sd_St (G : sd_T) (U : State) : Prop := va_K (sd_D G) am_cl (sd_tys G) U ∧ (∀ w ∈ am_nw, va_Nw w U) ∧ (∀ c, am_isq c = true → va_AO (am_cn c) U) ∧ va_X (sd_b G) (sd_sc G).length (fun k => Int32.ofInt ((sd_sc G).getD k 0)) U U.heap ∧ sd_b G < sd_o G ∧ (sd_sc G).length ≤ 3072
theorem sd_tyq {G : sd_T} {c : Nat} (h : am_isq c = true) : ∃ t : Nat, (sd_tys G)[t]? = some (sd_aq G c, FieldType.object (am_cn c)) := by
  unfold am_isq at h
  simp only [Bool.or_eq_true, beq_iff_eq] at h
  rcases h with (rfl | rfl) | rfl
  · exact ⟨1, rfl⟩
  · exact ⟨2, rfl⟩
  · exact ⟨3, rfl⟩
theorem sd_St.calling {G : sd_T} {U : State} {g : JFrame} {mk : MethodId} {a : Array Value} (h : sd_St G U) : sd_St G (U.calling g mk a) := by
  obtain ⟨h1, h2, h3, h4, h5, h6⟩ := h
  exact ⟨va_K.moved (u := U) (Vm.Alike.refl U.vm) h1, fun w hw => by
    obtain ⟨a', i, y, hh, rfl⟩ := am_nw_ml w hw
    exact va_Nw.same rfl (u := U) rfl (h2 _ hw), fun c hc => va_AO.moved (u := U) (Vm.Alike.refl U.vm) (h3 c hc), va_X.moved (u := U) (Vm.Alike.refl U.vm) h4, h5, h6⟩
theorem sd_St.moved {G : sd_T} {s U : State} {H : Heap} {locs : List Loc} (hW : s.WarmedH U.vm) (hU : U.heap = H) (hS : va_S (sd_A G) s.heap H locs) (ho : sd_o G ≤ s.heap.size) (h : sd_St G s) : sd_St G U := by
  obtain ⟨h1, h2, h3, h4, h5, h6⟩ := h
  refine ⟨va_K.moved hW.alike h1, fun w hw => ?_, fun c hc => va_AO.moved hW.alike (h3 c hc), va_X.moved hW.alike (h4.kept ?_), h5, h6⟩
  · obtain ⟨a', i, y, hh, rfl⟩ := am_nw_ml w hw
    exact va_Nw.warmM hW (h2 _ hw)
  · rw [hU]
    exact hS.2.1 _ (Nat.lt_of_lt_of_le h5 ho) (Nat.not_le.mpr h5)
def sd_XX (G : sd_T) (p : Program) (l : Launch) (e : Env) (R : Room) (s : State) (mm : MethodId) (args : Array Value) (below : List Frame) (meth : Method) (c : Code) (Q : State → Prop) (lim n0 : Nat) : am_X := fun pc al st n h =>
  ∀ (H : Heap) (locs : List Loc) (ls : Array Slot), sd_R G n h H → va_S (sd_A G) s.heap H locs → lv_has ls c.maxLocals (sd_lv G 0 al) → al.length = c.maxLocals → sd_okl al → sd_oks st → n0 ≤ n → n ≤ lim →
    W p l e R s mm args below meth c H locs (n - n0) (3500 * (n - n0)) Q (F0 mm pc ls (st.map (sd_cv G)))
def sd_Cx (G : sd_T) (p : Program) (l : Launch) (e : Env) (R : Room) (s : State) (mm : MethodId) (args : Array Value) (below : List Frame) (meth : Method) (c : Code) (m lim n0 D : Nat) : Prop :=
  p.tables.exec = Jvm.exec ∧ c.code = am_code m ∧ s.vm.findClass (am_cn (am_own m)) = some mm.cls ∧ (∀ w ∈ am_gt, w.before args s = true) ∧ sd_St G s ∧ (am_ini m = true → meth.name = "<init>") ∧ s.heap.size = sd_o G + n0 ∧ D + 1 ≤ R.frames ∧ 38 * (D + 1) ≤ R.locals ∧ lim - n0 ≤ R.cells ∧ 3500 * (lim - n0) ≤ R.slots
def sd_ret (m : Nat) (i : Instr) (x : Option am_V) : Prop := match i, x with
  | .ireturn, some (Sum.inl y) => am_rt m = 2 ∨ (am_rt m = 1 ∧ (y = 0 ∨ y = 1))
  | .lreturn, some (Sum.inr (Sum.inl _)) => am_rt m = 3
  | .areturn, some (Sum.inr (Sum.inr _)) => am_rt m = 4
  | .return_, none => am_rt m = 0
  | _, _ => False
def sd_Rt (G : sd_T) (p : Program) (l : Launch) (e : Env) (R : Room) (s : State) (mm : MethodId) (args : Array Value) (below : List Frame) (meth : Method) (c : Code) (Q : State → Prop) (m lim n0 : Nat) (K : am_K) : Prop :=
  ∀ (x : Option am_V) (n : Nat) (h : am_H) (H : Heap) (locs : List Loc) (ls : Array Slot) (pc : Nat) (i : Instr), decode (am_code m) pc = .ok (i, 1) → sd_ret m i x → n = lim → K x n h → sd_R G n h H → va_S (sd_A G) s.heap H locs → (∀ v, x = some v → sd_okv v) →
    W p l e R s mm args below meth c H locs (n - n0) (3500 * (n - n0)) Q (F0 mm pc ls ((x.map (sd_cv G)).toList))
def am_wsm (q : Nat) : List Jvm.Cond := Jvm.Cond.code (am_nm q) (am_code q) (am_mx q) (am_re q) :: am_gt
def sd_rm (D q : Nat) : Room := { frames := D, cells := am_co q, slots := 3500 * am_co q, locals := 38 * D }
def sd_Pc (G : sd_T) (vs : List am_V) (n : Nat) (h : am_H) : Array Value → State → Prop := va_Pc (vs.map (sd_cv G)) (fun U => U.heap.size = sd_o G + n ∧ sd_R G n h U.heap ∧ sd_St G U)
def sd_Qc (G : sd_T) (K : am_K) (n' : Nat) : Array Value → State → Outcome → State → Prop := fun _ st o t => (∃ (v : Option am_V) (h' : am_H), o = .returned (v.map (sd_cv G)) ∧ K v n' h' ∧ sd_R G n' h' t.heap ∧ ∀ w, v = some w → sd_okv w) ∧ va_F (sd_A G) st t
def sd_Cl (G : sd_T) (l : Launch) (D : Nat) : Prop := ∀ (q : Nat) (vs : List am_V) (n : Nat) (h : am_H) (K : am_K), q < am_N → am_M D q vs n h K → sd_oks vs → (am_sl vs).length ≤ am_mx q →
  Met l (am_nm q) (am_wsm q) (sd_rm D q) (sd_Pc G vs n h) (sd_Qc G K (n + am_co q)) (am_co q) (3500 * am_co q) (sd_A G)
section
variable {G : sd_T} {p : Program} {l : Launch} {e : Env} {R : Room} {s : State} {mm : MethodId} {args : Array Value} {below : List Frame} {meth : Method} {c : Code} {Q : State → Prop} {m lim n0 D : Nat} {pc : Nat} {al : am_L} {st : List am_V} {n : Nat} {h : am_H}
theorem sd_size {H : Heap} {locs : List Loc} {cells slots : Nat} {g : JFrame} (k : H.size ≤ s.heap.size + cells → W p l e R s mm args below meth c H locs cells slots Q g) : W p l e R s mm args below meth c H locs cells slots Q g := fun T hT Y => k (by rw [← hT]; exact Y.heapSize) T hT Y
/-- the heap's size -/
theorem sd_sized (Cx : sd_Cx G p l e R s mm args below meth c m lim n0 D) {H : Heap} {locs : List Loc} {g : JFrame} (hR : sd_R G n h H) (hS : va_S (sd_A G) s.heap H locs) (h1 : n0 ≤ n) (k : H.size = sd_o G + n → W p l e R s mm args below meth c H locs (n - n0) (3500 * (n - n0)) Q g) : W p l e R s mm args below meth c H locs (n - n0) (3500 * (n - n0)) Q g := by
  refine sd_size (fun hs => k ?_)
  have e1 := Cx.2.2.2.2.2.2.1
  have e2 := hS.1
  rcases Nat.eq_or_lt_of_le h1 with e3 | e3
  · omega
  · have := sd_lo hR (by omega)
    omega
theorem sd_l_iconst (Cx : sd_Cx G p l e R s mm args below meth c m lim n0 D) {x : Int} (hd : decode (am_code m) pc = .ok (.iconst x, 1)) (a : sd_XX G p l e R s mm args below meth c Q lim n0 (pc + 1) al (Sum.inl (wr x) :: st) n h) : sd_XX G p l e R s mm args below meth c Q lim n0 pc al st n h := by
  obtain ⟨hx, hb, hown, hts, hSt, hini, hsz, hfr, hlo, hce, hsl⟩ := Cx
  intro H locs ls hR hS hl hml hol hos h1 h2
  exact lv_iconst hx hb hd (sd_oI x).symm (a H locs ls hR hS hl hml hol (sd_oks_cons.mpr ⟨wr_in x, hos⟩) h1 h2)
theorem sd_l_bipush (Cx : sd_Cx G p l e R s mm args below meth c m lim n0 D) {x : Int} (hd : decode (am_code m) pc = .ok (.bipush x, 2)) (a : sd_XX G p l e R s mm args below meth c Q lim n0 (pc + 2) al (Sum.inl (am_b8 x) :: st) n h) : sd_XX G p l e R s mm args below meth c Q lim n0 pc al st n h := by
  obtain ⟨hx, hb, hown, hts, hSt, hini, hsz, hfr, hlo, hce, hsl⟩ := Cx
  intro H locs ls hR hS hl hml hol hos h1 h2
  exact lv_bipush hx hb hd (sd_bi x) (a H locs ls hR hS hl hml hol (sd_oks_cons.mpr ⟨am_b8_in x, hos⟩) h1 h2)
theorem sd_l_sipush (Cx : sd_Cx G p l e R s mm args below meth c m lim n0 D) {x : Int} (hd : decode (am_code m) pc = .ok (.sipush x, 3)) (a : sd_XX G p l e R s mm args below meth c Q lim n0 (pc + 3) al (Sum.inl (am_s16 x) :: st) n h) : sd_XX G p l e R s mm args below meth c Q lim n0 pc al st n h := by
  obtain ⟨hx, hb, hown, hts, hSt, hini, hsz, hfr, hlo, hce, hsl⟩ := Cx
  intro H locs ls hR hS hl hml hol hos h1 h2
  exact lv_sipush hx hb hd (sd_si x) (a H locs ls hR hS hl hml hol (sd_oks_cons.mpr ⟨am_s16_in x, hos⟩) h1 h2)
theorem sd_l_lconst (Cx : sd_Cx G p l e R s mm args below meth c m lim n0 D) {x : Fin 2} (hd : decode (am_code m) pc = .ok (.lconst x, 1)) (a : sd_XX G p l e R s mm args below meth c Q lim n0 (pc + 1) al (Sum.inr (Sum.inl ((x : Nat) : Int)) :: st) n h) : sd_XX G p l e R s mm args below meth c Q lim n0 pc al st n h := by
  obtain ⟨hx, hb, hown, hts, hSt, hini, hsz, hfr, hlo, hce, hsl⟩ := Cx
  intro H locs ls hR hS hl hml hol hos h1 h2
  exact lv_lconst hx hb hd (Int64.ofInt_eq_ofNat).symm (a H locs ls hR hS hl hml hol (sd_oks_cons.mpr ⟨(show inL _ by unfold inL; omega), hos⟩) h1 h2)
theorem sd_l_anull (Cx : sd_Cx G p l e R s mm args below meth c m lim n0 D)  (hd : decode (am_code m) pc = .ok (.aconst_null, 1)) (a : sd_XX G p l e R s mm args below meth c Q lim n0 (pc + 1) al (Sum.inr (Sum.inr none) :: st) n h) : sd_XX G p l e R s mm args below meth c Q lim n0 pc al st n h := by
  obtain ⟨hx, hb, hown, hts, hSt, hini, hsz, hfr, hlo, hce, hsl⟩ := Cx
  intro H locs ls hR hS hl hml hol hos h1 h2
  exact lv_null hx hb hd (a H locs ls hR hS hl hml hol (sd_oks_cons.mpr ⟨trivial, hos⟩) h1 h2)
theorem sd_l_ldc (Cx : sd_Cx G p l e R s mm args below meth c m lim n0 D) {ix : Nat} (hd : decode (am_code m) pc = .ok (.ldc_w ix, 3)) (a : am_ldc (sd_XX G p l e R s mm args below meth c Q lim n0) pc al st n h (am_ci (am_own m) ix)) : sd_XX G p l e R s mm args below meth c Q lim n0 pc al st n h := by
  obtain ⟨hx, hb, hown, hts, hSt, hini, hsz, hfr, hlo, hce, hsl⟩ := Cx
  unfold am_ldc at a
  split at a
  · next x hci =>
    intro H locs ls hR hS hl hml hol hos h1 h2
    have hc := hts _ (am_cik hci)
    rw [← sd_oI x] at hc
    exact lv_ldcw hx hb hown hc hd (a H locs ls hR hS hl hml hol (sd_oks_cons.mpr ⟨wr_in x, hos⟩) h1 h2)
  · exact a.elim
theorem sd_l_ldc2 (Cx : sd_Cx G p l e R s mm args below meth c m lim n0 D) {ix : Nat} (hd : decode (am_code m) pc = .ok (.ldc2_w ix, 3)) (a : am_ldc2 (sd_XX G p l e R s mm args below meth c Q lim n0) pc al st n h (am_cg (am_own m) ix)) : sd_XX G p l e R s mm args below meth c Q lim n0 pc al st n h := by
  obtain ⟨hx, hb, hown, hts, hSt, hini, hsz, hfr, hlo, hce, hsl⟩ := Cx
  unfold am_ldc2 at a
  split at a
  · next x hci =>
    intro H locs ls hR hS hl hml hol hos h1 h2
    have hc := hts _ (am_cgk hci)
    rw [← sd_oL x] at hc
    exact lv_ldc2 hx hb hown hc hd (a H locs ls hR hS hl hml hol (sd_oks_cons.mpr ⟨wrL_in x, hos⟩) h1 h2)
  · exact a.elim
theorem sd_l_iload_n (Cx : sd_Cx G p l e R s mm args below meth c m lim n0 D) {i : Fin 4} (hd : decode (am_code m) pc = .ok (.iload_n i, 1)) (a : am_ild (sd_XX G p l e R s mm args below meth c Q lim n0) pc al st n h i 1) : sd_XX G p l e R s mm args below meth c Q lim n0 pc al st n h := by
  obtain ⟨hx, hb, hown, hts, hSt, hini, hsz, hfr, hlo, hce, hsl⟩ := Cx
  unfold am_ild at a
  split at a
  · next x hg =>
    intro H locs ls hR hS hl hml hol hos h1 h2
    have hk := sd_lv_get hl hg
    have hv := hol _ _ hg
    have ka := a H locs ls hR hS hl hml hol (sd_oks_cons.mpr ⟨hv, hos⟩) h1 h2
    exact lv_iload_n hx hb hd rfl hk ka
  · exact a.elim
theorem sd_l_iload (Cx : sd_Cx G p l e R s mm args below meth c m lim n0 D) {i : Nat} (hd : decode (am_code m) pc = .ok (.iload i, 2)) (a : am_ild (sd_XX G p l e R s mm args below meth c Q lim n0) pc al st n h i 2) : sd_XX G p l e R s mm args below meth c Q lim n0 pc al st n h := by
  obtain ⟨hx, hb, hown, hts, hSt, hini, hsz, hfr, hlo, hce, hsl⟩ := Cx
  unfold am_ild at a
  split at a
  · next x hg =>
    intro H locs ls hR hS hl hml hol hos h1 h2
    have hk := sd_lv_get hl hg
    have hv := hol _ _ hg
    have ka := a H locs ls hR hS hl hml hol (sd_oks_cons.mpr ⟨hv, hos⟩) h1 h2
    exact lv_iload hx hb hd hk ka
  · exact a.elim
theorem sd_l_lload_n (Cx : sd_Cx G p l e R s mm args below meth c m lim n0 D) {i : Fin 4} (hd : decode (am_code m) pc = .ok (.lload_n i, 1)) (a : am_lld (sd_XX G p l e R s mm args below meth c Q lim n0) pc al st n h i 1) : sd_XX G p l e R s mm args below meth c Q lim n0 pc al st n h := by
  obtain ⟨hx, hb, hown, hts, hSt, hini, hsz, hfr, hlo, hce, hsl⟩ := Cx
  unfold am_lld at a
  split at a
  · next x hg =>
    intro H locs ls hR hS hl hml hol hos h1 h2
    have hk := sd_lv_get hl hg
    have hv := hol _ _ hg
    have ka := a H locs ls hR hS hl hml hol (sd_oks_cons.mpr ⟨hv, hos⟩) h1 h2
    exact lv_lload_n hx hb hd rfl hk ka
  · exact a.elim
theorem sd_l_lload (Cx : sd_Cx G p l e R s mm args below meth c m lim n0 D) {i : Nat} (hd : decode (am_code m) pc = .ok (.lload i, 2)) (a : am_lld (sd_XX G p l e R s mm args below meth c Q lim n0) pc al st n h i 2) : sd_XX G p l e R s mm args below meth c Q lim n0 pc al st n h := by
  obtain ⟨hx, hb, hown, hts, hSt, hini, hsz, hfr, hlo, hce, hsl⟩ := Cx
  unfold am_lld at a
  split at a
  · next x hg =>
    intro H locs ls hR hS hl hml hol hos h1 h2
    have hk := sd_lv_get hl hg
    have hv := hol _ _ hg
    have ka := a H locs ls hR hS hl hml hol (sd_oks_cons.mpr ⟨hv, hos⟩) h1 h2
    exact lv_lload hx hb hd hk ka
  · exact a.elim
theorem sd_l_aload_n (Cx : sd_Cx G p l e R s mm args below meth c m lim n0 D) {i : Fin 4} (hd : decode (am_code m) pc = .ok (.aload_n i, 1)) (a : am_ald (sd_XX G p l e R s mm args below meth c Q lim n0) pc al st n h i 1) : sd_XX G p l e R s mm args below meth c Q lim n0 pc al st n h := by
  obtain ⟨hx, hb, hown, hts, hSt, hini, hsz, hfr, hlo, hce, hsl⟩ := Cx
  unfold am_ald at a
  split at a
  · next x hg =>
    intro H locs ls hR hS hl hml hol hos h1 h2
    have hk := sd_lv_get hl hg
    have hv := hol _ _ hg
    have ka := a H locs ls hR hS hl hml hol (sd_oks_cons.mpr ⟨hv, hos⟩) h1 h2
    cases x with
    | none => exact lv_aload_nN hx hb hd rfl hk ka
    | some r => exact lv_aload_n hx hb hd rfl hk ka
  · exact a.elim
theorem sd_l_aload (Cx : sd_Cx G p l e R s mm args below meth c m lim n0 D) {i : Nat} (hd : decode (am_code m) pc = .ok (.aload i, 2)) (a : am_ald (sd_XX G p l e R s mm args below meth c Q lim n0) pc al st n h i 2) : sd_XX G p l e R s mm args below meth c Q lim n0 pc al st n h := by
  obtain ⟨hx, hb, hown, hts, hSt, hini, hsz, hfr, hlo, hce, hsl⟩ := Cx
  unfold am_ald at a
  split at a
  · next x hg =>
    intro H locs ls hR hS hl hml hol hos h1 h2
    have hk := sd_lv_get hl hg
    have hv := hol _ _ hg
    have ka := a H locs ls hR hS hl hml hol (sd_oks_cons.mpr ⟨hv, hos⟩) h1 h2
    cases x with
    | none => exact lv_aloadN hx hb hd hk ka
    | some r => exact lv_aload hx hb hd hk ka
  · exact a.elim
theorem sd_l_istore_n (Cx : sd_Cx G p l e R s mm args below meth c m lim n0 D) {i : Fin 4} (hd : decode (am_code m) pc = .ok (.istore_n i, 1)) (a : am_ist (sd_XX G p l e R s mm args below meth c Q lim n0) pc al st n h i 1) : sd_XX G p l e R s mm args below meth c Q lim n0 pc al st n h := by
  obtain ⟨hx, hb, hown, hts, hSt, hini, hsz, hfr, hlo, hce, hsl⟩ := Cx
  unfold am_ist at a
  split at a
  · next x r =>
    split at a
    · next al' hs =>
      intro H locs ls hR hS hl hml hol hos h1 h2
      obtain ⟨g1, g2, -⟩ := am_set_spec hs
      obtain ⟨hv, hos⟩ := sd_oks_cons.mp hos
      have ka : ∀ ls' : Array Slot, lv_has ls' c.maxLocals _ → _ := fun ls' q => a H locs ls' hR hS (sd_lv_set hs q) (g1.trans hml) (sd_okl_set hs hol hv) hos h1 h2
      exact lv_istore_n hx hb hd rfl hl (by omega) rfl ka
    · exact a.elim
  · exact a.elim
theorem sd_l_istore (Cx : sd_Cx G p l e R s mm args below meth c m lim n0 D) {i : Nat} (hd : decode (am_code m) pc = .ok (.istore i, 2)) (a : am_ist (sd_XX G p l e R s mm args below meth c Q lim n0) pc al st n h i 2) : sd_XX G p l e R s mm args below meth c Q lim n0 pc al st n h := by
  obtain ⟨hx, hb, hown, hts, hSt, hini, hsz, hfr, hlo, hce, hsl⟩ := Cx
  unfold am_ist at a
  split at a
  · next x r =>
    split at a
    · next al' hs =>
      intro H locs ls hR hS hl hml hol hos h1 h2
      obtain ⟨g1, g2, -⟩ := am_set_spec hs
      obtain ⟨hv, hos⟩ := sd_oks_cons.mp hos
      have ka : ∀ ls' : Array Slot, lv_has ls' c.maxLocals _ → _ := fun ls' q => a H locs ls' hR hS (sd_lv_set hs q) (g1.trans hml) (sd_okl_set hs hol hv) hos h1 h2
      exact lv_istore hx hb hd hl (by omega) rfl ka
    · exact a.elim
  · exact a.elim
theorem sd_l_astore_n (Cx : sd_Cx G p l e R s mm args below meth c m lim n0 D) {i : Fin 4} (hd : decode (am_code m) pc = .ok (.astore_n i, 1)) (a : am_ast (sd_XX G p l e R s mm args below meth c Q lim n0) pc al st n h i 1) : sd_XX G p l e R s mm args below meth c Q lim n0 pc al st n h := by
  obtain ⟨hx, hb, hown, hts, hSt, hini, hsz, hfr, hlo, hce, hsl⟩ := Cx
  unfold am_ast at a
  split at a
  · next x r =>
    split at a
    · next al' hs =>
      intro H locs ls hR hS hl hml hol hos h1 h2
      obtain ⟨g1, g2, -⟩ := am_set_spec hs
      obtain ⟨hv, hos⟩ := sd_oks_cons.mp hos
      have ka : ∀ ls' : Array Slot, lv_has ls' c.maxLocals _ → _ := fun ls' q => a H locs ls' hR hS (sd_lv_set hs q) (g1.trans hml) (sd_okl_set hs hol hv) hos h1 h2
      cases x with
      | none => exact lv_astore_nN hx hb hd rfl hl (by omega) rfl ka
      | some r => exact lv_astore_n hx hb hd rfl hl (by omega) rfl ka
    · exact a.elim
  · exact a.elim
theorem sd_l_astore (Cx : sd_Cx G p l e R s mm args below meth c m lim n0 D) {i : Nat} (hd : decode (am_code m) pc = .ok (.astore i, 2)) (a : am_ast (sd_XX G p l e R s mm args below meth c Q lim n0) pc al st n h i 2) : sd_XX G p l e R s mm args below meth c Q lim n0 pc al st n h := by
  obtain ⟨hx, hb, hown, hts, hSt, hini, hsz, hfr, hlo, hce, hsl⟩ := Cx
  unfold am_ast at a
  split at a
  · next x r =>
    split at a
    · next al' hs =>
      intro H locs ls hR hS hl hml hol hos h1 h2
      obtain ⟨g1, g2, -⟩ := am_set_spec hs
      obtain ⟨hv, hos⟩ := sd_oks_cons.mp hos
      have ka : ∀ ls' : Array Slot, lv_has ls' c.maxLocals _ → _ := fun ls' q => a H locs ls' hR hS (sd_lv_set hs q) (g1.trans hml) (sd_okl_set hs hol hv) hos h1 h2
      cases x with
      | none => exact lv_astoreN hx hb hd hl (by omega) rfl ka
      | some r => exact lv_astore hx hb hd hl (by omega) rfl ka
    · exact a.elim
  · exact a.elim
theorem sd_l_lstore (Cx : sd_Cx G p l e R s mm args below meth c m lim n0 D) {i : Nat} (hd : decode (am_code m) pc = .ok (.lstore i, 2)) (a : am_lst (sd_XX G p l e R s mm args below meth c Q lim n0) pc al st n h i 2) : sd_XX G p l e R s mm args below meth c Q lim n0 pc al st n h := by
  obtain ⟨hx, hb, hown, hts, hSt, hini, hsz, hfr, hlo, hce, hsl⟩ := Cx
  unfold am_lst at a
  split at a
  · next x r =>
    split at a
    · next al' hs =>
      split at a
      · next al'' hs2 =>
        intro H locs ls hR hS hl hml hol hos h1 h2
        obtain ⟨g1, g2, -⟩ := am_set_spec hs
        obtain ⟨g3, g4, -⟩ := am_nil_spec hs2
        obtain ⟨hv, hos⟩ := sd_oks_cons.mp hos
        exact lv_lstore hx hb hd hl (by omega) rfl (fun ls' q => a H locs ls' hR hS (sd_lv_setL hs hs2 q) (g3.trans (g1.trans hml)) (sd_okl_nil hs2 (sd_okl_set hs hol hv)) hos h1 h2)
      · exact a.elim
    · exact a.elim
  · exact a.elim
theorem sd_l_iinc (Cx : sd_Cx G p l e R s mm args below meth c m lim n0 D) {i : Nat} {k : Int} (hd : decode (am_code m) pc = .ok (.iinc i k, 3)) (a : am_inc (sd_XX G p l e R s mm args below meth c Q lim n0) pc al st n h i k) : sd_XX G p l e R s mm args below meth c Q lim n0 pc al st n h := by
  obtain ⟨hx, hb, hown, hts, hSt, hini, hsz, hfr, hlo, hce, hsl⟩ := Cx
  unfold am_inc at a
  split at a
  · next x hg =>
    split at a
    · next al' hs =>
      intro H locs ls hR hS hl hml hol hos h1 h2
      obtain ⟨g1, g2, -⟩ := am_set_spec hs
      have hm := sd_lv_in (G := G) (i := 0) hg
      rw [Nat.zero_add] at hm
      obtain ⟨kk, hk⟩ := List.getElem?_of_mem hm
      exact lv_iinc hx hb hd hl hk (sd_add x k) (by omega) rfl (fun ls' q => a H locs ls' hR hS (sd_lv_set hs q) (g1.trans hml) (sd_okl_set hs hol (wr_in _)) hos h1 h2)
    · exact a.elim
  · exact a.elim
theorem sd_l_iadd (Cx : sd_Cx G p l e R s mm args below meth c m lim n0 D) (hd : decode (am_code m) pc = .ok (.iadd, 1)) (a : am_bin (sd_XX G p l e R s mm args below meth c Q lim n0) pc al st n h (fun a b => wr (a + b))) : sd_XX G p l e R s mm args below meth c Q lim n0 pc al st n h := by
  obtain ⟨hx, hb, hown, hts, hSt, hini, hsz, hfr, hlo, hce, hsl⟩ := Cx
  unfold am_bin at a
  split at a
  · next y x r =>
    intro H locs ls hR hS hl hml hol hos h1 h2
    obtain ⟨hy, hos⟩ := sd_oks_cons.mp hos
    obtain ⟨hxx, hos⟩ := sd_oks_cons.mp hos
    refine lv_iadd hx hb hd ?_
    have ka := a H locs ls hR hS hl hml hol (sd_oks_cons.mpr ⟨wr_in _, hos⟩) h1 h2
    rw [sd_add]; exact ka
  · exact a.elim
theorem sd_l_isub (Cx : sd_Cx G p l e R s mm args below meth c m lim n0 D) (hd : decode (am_code m) pc = .ok (.isub, 1)) (a : am_bin (sd_XX G p l e R s mm args below meth c Q lim n0) pc al st n h (fun a b => wr (a - b))) : sd_XX G p l e R s mm args below meth c Q lim n0 pc al st n h := by
  obtain ⟨hx, hb, hown, hts, hSt, hini, hsz, hfr, hlo, hce, hsl⟩ := Cx
  unfold am_bin at a
  split at a
  · next y x r =>
    intro H locs ls hR hS hl hml hol hos h1 h2
    obtain ⟨hy, hos⟩ := sd_oks_cons.mp hos
    obtain ⟨hxx, hos⟩ := sd_oks_cons.mp hos
    refine lv_isub hx hb hd ?_
    have ka := a H locs ls hR hS hl hml hol (sd_oks_cons.mpr ⟨wr_in _, hos⟩) h1 h2
    rw [sd_sub]; exact ka
  · exact a.elim
theorem sd_l_imul (Cx : sd_Cx G p l e R s mm args below meth c m lim n0 D) (hd : decode (am_code m) pc = .ok (.imul, 1)) (a : am_bin (sd_XX G p l e R s mm args below meth c Q lim n0) pc al st n h (fun a b => wr (a * b))) : sd_XX G p l e R s mm args below meth c Q lim n0 pc al st n h := by
  obtain ⟨hx, hb, hown, hts, hSt, hini, hsz, hfr, hlo, hce, hsl⟩ := Cx
  unfold am_bin at a
  split at a
  · next y x r =>
    intro H locs ls hR hS hl hml hol hos h1 h2
    obtain ⟨hy, hos⟩ := sd_oks_cons.mp hos
    obtain ⟨hxx, hos⟩ := sd_oks_cons.mp hos
    refine lv_imul hx hb hd ?_
    have ka := a H locs ls hR hS hl hml hol (sd_oks_cons.mpr ⟨wr_in _, hos⟩) h1 h2
    rw [sd_mul]; exact ka
  · exact a.elim
theorem sd_l_iand (Cx : sd_Cx G p l e R s mm args below meth c m lim n0 D) (hd : decode (am_code m) pc = .ok (.iand, 1)) (a : am_bin (sd_XX G p l e R s mm args below meth c Q lim n0) pc al st n h am_and) : sd_XX G p l e R s mm args below meth c Q lim n0 pc al st n h := by
  obtain ⟨hx, hb, hown, hts, hSt, hini, hsz, hfr, hlo, hce, hsl⟩ := Cx
  unfold am_bin at a
  split at a
  · next y x r =>
    intro H locs ls hR hS hl hml hol hos h1 h2
    obtain ⟨hy, hos⟩ := sd_oks_cons.mp hos
    obtain ⟨hxx, hos⟩ := sd_oks_cons.mp hos
    refine lv_iand hx hb hd ?_
    have ka := a H locs ls hR hS hl hml hol (sd_oks_cons.mpr ⟨sd_I_in _, hos⟩) h1 h2
    rw [← Int32.ofInt_toInt (Int32.ofInt x &&& Int32.ofInt y)]; exact ka
  · exact a.elim
theorem sd_l_ior (Cx : sd_Cx G p l e R s mm args below meth c m lim n0 D) (hd : decode (am_code m) pc = .ok (.ior, 1)) (a : am_bin (sd_XX G p l e R s mm args below meth c Q lim n0) pc al st n h am_or) : sd_XX G p l e R s mm args below meth c Q lim n0 pc al st n h := by
  obtain ⟨hx, hb, hown, hts, hSt, hini, hsz, hfr, hlo, hce, hsl⟩ := Cx
  unfold am_bin at a
  split at a
  · next y x r =>
    intro H locs ls hR hS hl hml hol hos h1 h2
    obtain ⟨hy, hos⟩ := sd_oks_cons.mp hos
    obtain ⟨hxx, hos⟩ := sd_oks_cons.mp hos
    refine lv_ior hx hb hd ?_
    have ka := a H locs ls hR hS hl hml hol (sd_oks_cons.mpr ⟨sd_I_in _, hos⟩) h1 h2
    rw [← Int32.ofInt_toInt (Int32.ofInt x ||| Int32.ofInt y)]; exact ka
  · exact a.elim
theorem sd_l_ixor (Cx : sd_Cx G p l e R s mm args below meth c m lim n0 D) (hd : decode (am_code m) pc = .ok (.ixor, 1)) (a : am_bin (sd_XX G p l e R s mm args below meth c Q lim n0) pc al st n h am_xor) : sd_XX G p l e R s mm args below meth c Q lim n0 pc al st n h := by
  obtain ⟨hx, hb, hown, hts, hSt, hini, hsz, hfr, hlo, hce, hsl⟩ := Cx
  unfold am_bin at a
  split at a
  · next y x r =>
    intro H locs ls hR hS hl hml hol hos h1 h2
    obtain ⟨hy, hos⟩ := sd_oks_cons.mp hos
    obtain ⟨hxx, hos⟩ := sd_oks_cons.mp hos
    refine lv_ixor hx hb hd ?_
    have ka := a H locs ls hR hS hl hml hol (sd_oks_cons.mpr ⟨sd_I_in _, hos⟩) h1 h2
    rw [← Int32.ofInt_toInt (Int32.ofInt x ^^^ Int32.ofInt y)]; exact ka
  · exact a.elim
theorem sd_l_ishl (Cx : sd_Cx G p l e R s mm args below meth c m lim n0 D) (hd : decode (am_code m) pc = .ok (.ishl, 1)) (a : am_bin (sd_XX G p l e R s mm args below meth c Q lim n0) pc al st n h am_shl) : sd_XX G p l e R s mm args below meth c Q lim n0 pc al st n h := by
  obtain ⟨hx, hb, hown, hts, hSt, hini, hsz, hfr, hlo, hce, hsl⟩ := Cx
  unfold am_bin at a
  split at a
  · next y x r =>
    intro H locs ls hR hS hl hml hol hos h1 h2
    obtain ⟨hy, hos⟩ := sd_oks_cons.mp hos
    obtain ⟨hxx, hos⟩ := sd_oks_cons.mp hos
    refine lv_ishl hx hb hd ?_
    have ka := a H locs ls hR hS hl hml hol (sd_oks_cons.mpr ⟨sd_I_in _, hos⟩) h1 h2
    rw [← Int32.ofInt_toInt (Int32.ofInt x <<< (Int32.ofInt y &&& 31))]; exact ka
  · exact a.elim
theorem sd_l_ishr (Cx : sd_Cx G p l e R s mm args below meth c m lim n0 D) (hd : decode (am_code m) pc = .ok (.ishr, 1)) (a : am_bin (sd_XX G p l e R s mm args below meth c Q lim n0) pc al st n h am_shr) : sd_XX G p l e R s mm args below meth c Q lim n0 pc al st n h := by
  obtain ⟨hx, hb, hown, hts, hSt, hini, hsz, hfr, hlo, hce, hsl⟩ := Cx
  unfold am_bin at a
  split at a
  · next y x r =>
    intro H locs ls hR hS hl hml hol hos h1 h2
    obtain ⟨hy, hos⟩ := sd_oks_cons.mp hos
    obtain ⟨hxx, hos⟩ := sd_oks_cons.mp hos
    refine lv_ishr hx hb hd ?_
    have ka := a H locs ls hR hS hl hml hol (sd_oks_cons.mpr ⟨sd_I_in _, hos⟩) h1 h2
    rw [← Int32.ofInt_toInt (Int32.ofInt x >>> (Int32.ofInt y &&& 31))]; exact ka
  · exact a.elim
theorem sd_l_iushr (Cx : sd_Cx G p l e R s mm args below meth c m lim n0 D) (hd : decode (am_code m) pc = .ok (.iushr, 1)) (a : am_bin (sd_XX G p l e R s mm args below meth c Q lim n0) pc al st n h am_ush) : sd_XX G p l e R s mm args below meth c Q lim n0 pc al st n h := by
  obtain ⟨hx, hb, hown, hts, hSt, hini, hsz, hfr, hlo, hce, hsl⟩ := Cx
  unfold am_bin at a
  split at a
  · next y x r =>
    intro H locs ls hR hS hl hml hol hos h1 h2
    obtain ⟨hy, hos⟩ := sd_oks_cons.mp hos
    obtain ⟨hxx, hos⟩ := sd_oks_cons.mp hos
    exact lv_iushr hx hb hd (Int32.ofInt_toInt _).symm (a H locs ls hR hS hl hml hol (sd_oks_cons.mpr ⟨sd_I_in _, hos⟩) h1 h2)
  · exact a.elim
theorem sd_l_idiv (Cx : sd_Cx G p l e R s mm args below meth c m lim n0 D) (hd : decode (am_code m) pc = .ok (.idiv, 1)) (a : am_div (sd_XX G p l e R s mm args below meth c Q lim n0) pc al st n h (fun a b => wr (a.tdiv b))) : sd_XX G p l e R s mm args below meth c Q lim n0 pc al st n h := by
  obtain ⟨hx, hb, hown, hts, hSt, hini, hsz, hfr, hlo, hce, hsl⟩ := Cx
  unfold am_div at a
  split at a
  · next y x r =>
    intro H locs ls hR hS hl hml hol hos h1 h2
    obtain ⟨hy, hos⟩ := sd_oks_cons.mp hos
    obtain ⟨hxx, hos⟩ := sd_oks_cons.mp hos
    have hy : inR y := hy
    have hxx : inR x := hxx
    refine lv_idiv hx hb hd (fun q => a.1 ((sd_eq hy sd_0).mp q)) ?_
    have ka := a.2 H locs ls hR hS hl hml hol (sd_oks_cons.mpr ⟨wr_in _, hos⟩) h1 h2
    rw [sd_div hxx hy]; exact ka
  · exact a.elim
theorem sd_l_irem (Cx : sd_Cx G p l e R s mm args below meth c m lim n0 D) (hd : decode (am_code m) pc = .ok (.irem, 1)) (a : am_div (sd_XX G p l e R s mm args below meth c Q lim n0) pc al st n h (fun a b => a.tmod b)) : sd_XX G p l e R s mm args below meth c Q lim n0 pc al st n h := by
  obtain ⟨hx, hb, hown, hts, hSt, hini, hsz, hfr, hlo, hce, hsl⟩ := Cx
  unfold am_div at a
  split at a
  · next y x r =>
    intro H locs ls hR hS hl hml hol hos h1 h2
    obtain ⟨hy, hos⟩ := sd_oks_cons.mp hos
    obtain ⟨hxx, hos⟩ := sd_oks_cons.mp hos
    have hy : inR y := hy
    have hxx : inR x := hxx
    refine lv_irem hx hb hd (fun q => a.1 ((sd_eq hy sd_0).mp q)) ?_
    have ka := a.2 H locs ls hR hS hl hml hol (sd_oks_cons.mpr ⟨sd_rem_in hxx, hos⟩) h1 h2
    rw [sd_rem hxx hy]; exact ka
  · exact a.elim
theorem sd_l_ldiv (Cx : sd_Cx G p l e R s mm args below meth c m lim n0 D) (hd : decode (am_code m) pc = .ok (.ldiv, 1)) (a : am_ldv (sd_XX G p l e R s mm args below meth c Q lim n0) pc al st n h (fun a b => wrL (a.tdiv b))) : sd_XX G p l e R s mm args below meth c Q lim n0 pc al st n h := by
  obtain ⟨hx, hb, hown, hts, hSt, hini, hsz, hfr, hlo, hce, hsl⟩ := Cx
  unfold am_ldv at a
  split at a
  · next y x r =>
    intro H locs ls hR hS hl hml hol hos h1 h2
    obtain ⟨hy, hos⟩ := sd_oks_cons.mp hos
    obtain ⟨hxx, hos⟩ := sd_oks_cons.mp hos
    have hy : inL y := hy
    have hxx : inL x := hxx
    refine lv_ldiv hx hb hd (fun q => a.1 ((sd_leq hy sd_0L).mp q)) ?_
    have ka := a.2 H locs ls hR hS hl hml hol (sd_oks_cons.mpr ⟨wrL_in _, hos⟩) h1 h2
    rw [sd_ldiv hxx hy]; exact ka
  · exact a.elim
theorem sd_l_lrem (Cx : sd_Cx G p l e R s mm args below meth c m lim n0 D) (hd : decode (am_code m) pc = .ok (.lrem, 1)) (a : am_ldv (sd_XX G p l e R s mm args below meth c Q lim n0) pc al st n h (fun a b => a.tmod b)) : sd_XX G p l e R s mm args below meth c Q lim n0 pc al st n h := by
  obtain ⟨hx, hb, hown, hts, hSt, hini, hsz, hfr, hlo, hce, hsl⟩ := Cx
  unfold am_ldv at a
  split at a
  · next y x r =>
    intro H locs ls hR hS hl hml hol hos h1 h2
    obtain ⟨hy, hos⟩ := sd_oks_cons.mp hos
    obtain ⟨hxx, hos⟩ := sd_oks_cons.mp hos
    have hy : inL y := hy
    have hxx : inL x := hxx
    refine lv_lrem hx hb hd (fun q => a.1 ((sd_leq hy sd_0L).mp q)) ?_
    have ka := a.2 H locs ls hR hS hl hml hol (sd_oks_cons.mpr ⟨sd_lrem_in hxx, hos⟩) h1 h2
    rw [sd_lrem hxx hy]; exact ka
  · exact a.elim
theorem sd_l_lcmp (Cx : sd_Cx G p l e R s mm args below meth c m lim n0 D) (hd : decode (am_code m) pc = .ok (.lcmp, 1)) (a : am_lcp (sd_XX G p l e R s mm args below meth c Q lim n0) pc al st n h) : sd_XX G p l e R s mm args below meth c Q lim n0 pc al st n h := by
  obtain ⟨hx, hb, hown, hts, hSt, hini, hsz, hfr, hlo, hce, hsl⟩ := Cx
  unfold am_lcp at a
  split at a
  · next y x r =>
    intro H locs ls hR hS hl hml hol hos h1 h2
    obtain ⟨hy, hos⟩ := sd_oks_cons.mp hos
    obtain ⟨hxx, hos⟩ := sd_oks_cons.mp hos
    have hy : inL y := hy
    have hxx : inL x := hxx
    refine W.lcmp hx hb hd ?_
    have ka := a H locs ls hR hS hl hml hol (sd_oks_cons.mpr ⟨am_lc_in _ _, hos⟩) h1 h2
    rw [sd_lcmp hxx hy]; exact ka
  · exact a.elim
theorem sd_l_i2b (Cx : sd_Cx G p l e R s mm args below meth c m lim n0 D) (hd : decode (am_code m) pc = .ok (.i2b, 1)) (a : am_un (sd_XX G p l e R s mm args below meth c Q lim n0) pc al st n h am_b8) : sd_XX G p l e R s mm args below meth c Q lim n0 pc al st n h := by
  obtain ⟨hx, hb, hown, hts, hSt, hini, hsz, hfr, hlo, hce, hsl⟩ := Cx
  unfold am_un at a
  split at a
  · next x r =>
    intro H locs ls hR hS hl hml hol hos h1 h2
    obtain ⟨hy, hos⟩ := sd_oks_cons.mp hos
    exact lv_i2b hx hb hd (sd_i2b hy) (a H locs ls hR hS hl hml hol (sd_oks_cons.mpr ⟨am_b8_in _, hos⟩) h1 h2)
  · exact a.elim
theorem sd_l_i2s (Cx : sd_Cx G p l e R s mm args below meth c m lim n0 D) (hd : decode (am_code m) pc = .ok (.i2s, 1)) (a : am_un (sd_XX G p l e R s mm args below meth c Q lim n0) pc al st n h am_s16) : sd_XX G p l e R s mm args below meth c Q lim n0 pc al st n h := by
  obtain ⟨hx, hb, hown, hts, hSt, hini, hsz, hfr, hlo, hce, hsl⟩ := Cx
  unfold am_un at a
  split at a
  · next x r =>
    intro H locs ls hR hS hl hml hol hos h1 h2
    obtain ⟨hy, hos⟩ := sd_oks_cons.mp hos
    exact lv_i2s hx hb hd (sd_i2s hy) (a H locs ls hR hS hl hml hol (sd_oks_cons.mpr ⟨am_s16_in _, hos⟩) h1 h2)
  · exact a.elim
theorem sd_l_i2l (Cx : sd_Cx G p l e R s mm args below meth c m lim n0 D) (hd : decode (am_code m) pc = .ok (.i2l, 1)) (a : am_i2l (sd_XX G p l e R s mm args below meth c Q lim n0) pc al st n h) : sd_XX G p l e R s mm args below meth c Q lim n0 pc al st n h := by
  obtain ⟨hx, hb, hown, hts, hSt, hini, hsz, hfr, hlo, hce, hsl⟩ := Cx
  unfold am_i2l at a
  split at a
  · next x r =>
    intro H locs ls hR hS hl hml hol hos h1 h2
    obtain ⟨hy, hos⟩ := sd_oks_cons.mp hos
    exact lv_i2l hx hb hd (sd_i2l hy) (a H locs ls hR hS hl hml hol (sd_oks_cons.mpr ⟨sd_inL hy, hos⟩) h1 h2)
  · exact a.elim
theorem sd_tgt {pc : Nat} {off : Int} (h : 0 ≤ (pc : Int) + off) : (pc : Int) + off = (((pc : Int) + off).toNat : Int) := by omega
theorem sd_l_goto (Cx : sd_Cx G p l e R s mm args below meth c m lim n0 D) {off : Int} (hd : decode (am_code m) pc = .ok (.goto off, 3)) (a : am_jmp (fun q => sd_XX G p l e R s mm args below meth c Q lim n0 q al st n h) pc off) : sd_XX G p l e R s mm args below meth c Q lim n0 pc al st n h := by
  obtain ⟨hx, hb, hown, hts, hSt, hini, hsz, hfr, hlo, hce, hsl⟩ := Cx
  intro H locs ls hR hS hl hml hol hos h1 h2
  exact lv_goto hx hb hd (sd_tgt a.1) (a.2 H locs ls hR hS hl hml hol hos h1 h2)
theorem sd_w2_eq {cc : ByteArray} {H : Heap} {locs : List Loc} {cells slots : Nat} {ls : Array Slot} {rest : List Value} {off : Int} {x y : Int32} (hexec : p.tables.exec = Jvm.exec) (hb : c.code = cc) (hdg : decode cc pc = .ok (.if_icmp .eq off, 3)) (hn : ¬ (x = y)) (k : W p l e R s mm args below meth c H locs cells slots Q (F0 mm (pc + 3) ls rest)) : W p l e R s mm args below meth c H locs cells slots Q (F0 mm pc ls (.int y :: .int x :: rest)) := by
  intro T hT X
  obtain ⟨t, a, b⟩ := k T hT X
  refine ⟨t, ?_, b⟩
  have hn' := hn
  jvm_step X.here [X.here.top, hexec, hb, hdg, Op.if_icmp.holds, hn']
  exact a
theorem sd_w2_ne {cc : ByteArray} {H : Heap} {locs : List Loc} {cells slots : Nat} {ls : Array Slot} {rest : List Value} {off : Int} {x y : Int32} (hexec : p.tables.exec = Jvm.exec) (hb : c.code = cc) (hdg : decode cc pc = .ok (.if_icmp .ne off, 3)) (hn : ¬ (¬ x = y)) (k : W p l e R s mm args below meth c H locs cells slots Q (F0 mm (pc + 3) ls rest)) : W p l e R s mm args below meth c H locs cells slots Q (F0 mm pc ls (.int y :: .int x :: rest)) := by
  intro T hT X
  obtain ⟨t, a, b⟩ := k T hT X
  refine ⟨t, ?_, b⟩
  have hn' : x = y := Decidable.of_not_not hn
  jvm_step X.here [X.here.top, hexec, hb, hdg, Op.if_icmp.holds, hn']
  exact a
theorem sd_w2_lt {cc : ByteArray} {H : Heap} {locs : List Loc} {cells slots : Nat} {ls : Array Slot} {rest : List Value} {off : Int} {x y : Int32} (hexec : p.tables.exec = Jvm.exec) (hb : c.code = cc) (hdg : decode cc pc = .ok (.if_icmp .lt off, 3)) (hn : ¬ (x < y)) (k : W p l e R s mm args below meth c H locs cells slots Q (F0 mm (pc + 3) ls rest)) : W p l e R s mm args below meth c H locs cells slots Q (F0 mm pc ls (.int y :: .int x :: rest)) := by
  intro T hT X
  obtain ⟨t, a, b⟩ := k T hT X
  refine ⟨t, ?_, b⟩
  have hn' := hn
  jvm_step X.here [X.here.top, hexec, hb, hdg, Op.if_icmp.holds, hn']
  exact a
theorem sd_w2_ge {cc : ByteArray} {H : Heap} {locs : List Loc} {cells slots : Nat} {ls : Array Slot} {rest : List Value} {off : Int} {x y : Int32} (hexec : p.tables.exec = Jvm.exec) (hb : c.code = cc) (hdg : decode cc pc = .ok (.if_icmp .ge off, 3)) (hn : ¬ (y ≤ x)) (k : W p l e R s mm args below meth c H locs cells slots Q (F0 mm (pc + 3) ls rest)) : W p l e R s mm args below meth c H locs cells slots Q (F0 mm pc ls (.int y :: .int x :: rest)) := by
  intro T hT X
  obtain ⟨t, a, b⟩ := k T hT X
  refine ⟨t, ?_, b⟩
  have hn' := hn
  jvm_step X.here [X.here.top, hexec, hb, hdg, Op.if_icmp.holds, hn']
  exact a
theorem sd_w2_gt {cc : ByteArray} {H : Heap} {locs : List Loc} {cells slots : Nat} {ls : Array Slot} {rest : List Value} {off : Int} {x y : Int32} (hexec : p.tables.exec = Jvm.exec) (hb : c.code = cc) (hdg : decode cc pc = .ok (.if_icmp .gt off, 3)) (hn : ¬ (y < x)) (k : W p l e R s mm args below meth c H locs cells slots Q (F0 mm (pc + 3) ls rest)) : W p l e R s mm args below meth c H locs cells slots Q (F0 mm pc ls (.int y :: .int x :: rest)) := by
  intro T hT X
  obtain ⟨t, a, b⟩ := k T hT X
  refine ⟨t, ?_, b⟩
  have hn' := hn
  jvm_step X.here [X.here.top, hexec, hb, hdg, Op.if_icmp.holds, hn']
  exact a
theorem sd_w2_le {cc : ByteArray} {H : Heap} {locs : List Loc} {cells slots : Nat} {ls : Array Slot} {rest : List Value} {off : Int} {x y : Int32} (hexec : p.tables.exec = Jvm.exec) (hb : c.code = cc) (hdg : decode cc pc = .ok (.if_icmp .le off, 3)) (hn : ¬ (x ≤ y)) (k : W p l e R s mm args below meth c H locs cells slots Q (F0 mm (pc + 3) ls rest)) : W p l e R s mm args below meth c H locs cells slots Q (F0 mm pc ls (.int y :: .int x :: rest)) := by
  intro T hT X
  obtain ⟨t, a, b⟩ := k T hT X
  refine ⟨t, ?_, b⟩
  have hn' := hn
  jvm_step X.here [X.here.top, hexec, hb, hdg, Op.if_icmp.holds, hn']
  exact a
theorem sd_w1_eq {cc : ByteArray} {H : Heap} {locs : List Loc} {cells slots : Nat} {ls : Array Slot} {rest : List Value} {off : Int} {x  : Int32} (hexec : p.tables.exec = Jvm.exec) (hb : c.code = cc) (hdg : decode cc pc = .ok (.ifCond .eq off, 3)) (hn : ¬ (x = 0)) (k : W p l e R s mm args below meth c H locs cells slots Q (F0 mm (pc + 3) ls rest)) : W p l e R s mm args below meth c H locs cells slots Q (F0 mm pc ls (.int x :: rest)) := by
  intro T hT X
  obtain ⟨t, a, b⟩ := k T hT X
  refine ⟨t, ?_, b⟩
  have hn' := hn
  jvm_step X.here [X.here.top, hexec, hb, hdg, Op.ifCond.holds, hn']
  exact a
theorem sd_w1_ne {cc : ByteArray} {H : Heap} {locs : List Loc} {cells slots : Nat} {ls : Array Slot} {rest : List Value} {off : Int} {x  : Int32} (hexec : p.tables.exec = Jvm.exec) (hb : c.code = cc) (hdg : decode cc pc = .ok (.ifCond .ne off, 3)) (hn : ¬ (¬ x = 0)) (k : W p l e R s mm args below meth c H locs cells slots Q (F0 mm (pc + 3) ls rest)) : W p l e R s mm args below meth c H locs cells slots Q (F0 mm pc ls (.int x :: rest)) := by
  intro T hT X
  obtain ⟨t, a, b⟩ := k T hT X
  refine ⟨t, ?_, b⟩
  have hn' : x = 0 := Decidable.of_not_not hn
  jvm_step X.here [X.here.top, hexec, hb, hdg, Op.ifCond.holds, hn']
  exact a
theorem sd_w1_lt {cc : ByteArray} {H : Heap} {locs : List Loc} {cells slots : Nat} {ls : Array Slot} {rest : List Value} {off : Int} {x  : Int32} (hexec : p.tables.exec = Jvm.exec) (hb : c.code = cc) (hdg : decode cc pc = .ok (.ifCond .lt off, 3)) (hn : ¬ (x < 0)) (k : W p l e R s mm args below meth c H locs cells slots Q (F0 mm (pc + 3) ls rest)) : W p l e R s mm args below meth c H locs cells slots Q (F0 mm pc ls (.int x :: rest)) := by
  intro T hT X
  obtain ⟨t, a, b⟩ := k T hT X
  refine ⟨t, ?_, b⟩
  have hn' := hn
  jvm_step X.here [X.here.top, hexec, hb, hdg, Op.ifCond.holds, hn']
  exact a
theorem sd_w1_ge {cc : ByteArray} {H : Heap} {locs : List Loc} {cells slots : Nat} {ls : Array Slot} {rest : List Value} {off : Int} {x  : Int32} (hexec : p.tables.exec = Jvm.exec) (hb : c.code = cc) (hdg : decode cc pc = .ok (.ifCond .ge off, 3)) (hn : ¬ (0 ≤ x)) (k : W p l e R s mm args below meth c H locs cells slots Q (F0 mm (pc + 3) ls rest)) : W p l e R s mm args below meth c H locs cells slots Q (F0 mm pc ls (.int x :: rest)) := by
  intro T hT X
  obtain ⟨t, a, b⟩ := k T hT X
  refine ⟨t, ?_, b⟩
  have hn' := hn
  jvm_step X.here [X.here.top, hexec, hb, hdg, Op.ifCond.holds, hn']
  exact a
theorem sd_w1_gt {cc : ByteArray} {H : Heap} {locs : List Loc} {cells slots : Nat} {ls : Array Slot} {rest : List Value} {off : Int} {x  : Int32} (hexec : p.tables.exec = Jvm.exec) (hb : c.code = cc) (hdg : decode cc pc = .ok (.ifCond .gt off, 3)) (hn : ¬ (0 < x)) (k : W p l e R s mm args below meth c H locs cells slots Q (F0 mm (pc + 3) ls rest)) : W p l e R s mm args below meth c H locs cells slots Q (F0 mm pc ls (.int x :: rest)) := by
  intro T hT X
  obtain ⟨t, a, b⟩ := k T hT X
  refine ⟨t, ?_, b⟩
  have hn' := hn
  jvm_step X.here [X.here.top, hexec, hb, hdg, Op.ifCond.holds, hn']
  exact a
theorem sd_w1_le {cc : ByteArray} {H : Heap} {locs : List Loc} {cells slots : Nat} {ls : Array Slot} {rest : List Value} {off : Int} {x  : Int32} (hexec : p.tables.exec = Jvm.exec) (hb : c.code = cc) (hdg : decode cc pc = .ok (.ifCond .le off, 3)) (hn : ¬ (x ≤ 0)) (k : W p l e R s mm args below meth c H locs cells slots Q (F0 mm (pc + 3) ls rest)) : W p l e R s mm args below meth c H locs cells slots Q (F0 mm pc ls (.int x :: rest)) := by
  intro T hT X
  obtain ⟨t, a, b⟩ := k T hT X
  refine ⟨t, ?_, b⟩
  have hn' := hn
  jvm_step X.here [X.here.top, hexec, hb, hdg, Op.ifCond.holds, hn']
  exact a
theorem sd_l_if2 (Cx : sd_Cx G p l e R s mm args below meth c m lim n0 D) {cd : Jvm.ClassFile.Cond} {off : Int} (hd : decode (am_code m) pc = .ok (.if_icmp cd off, 3)) (a : am_if2 (sd_XX G p l e R s mm args below meth c Q lim n0) pc al st n h cd off) : sd_XX G p l e R s mm args below meth c Q lim n0 pc al st n h := by
  obtain ⟨hx, hb, hown, hts, hSt, hini, hsz, hfr, hlo, hce, hsl⟩ := Cx
  unfold am_if2 at a
  split at a
  · next y x r =>
    intro H locs ls hR hS hl hml hol hos h1 h2
    obtain ⟨hy, hos⟩ := sd_oks_cons.mp hos
    obtain ⟨hxx, hos⟩ := sd_oks_cons.mp hos
    have hxx : inR x := hxx
    have hy : inR y := hy
    cases cd with
    | eq =>
      by_cases hc : x = y
      · exact lv_icmp_eq hx hb hd (sd_tgt (a.1 hc).1) (fun q => (a.1 ((sd_eq hxx hy).mp q)).2 H locs ls hR hS hl hml hol hos h1 h2) (fun q => a.2 (fun z => q ((sd_eq hxx hy).mpr z)) H locs ls hR hS hl hml hol hos h1 h2)
      · exact sd_w2_eq hx hb hd (fun q => hc ((sd_eq hxx hy).mp q)) (a.2 hc H locs ls hR hS hl hml hol hos h1 h2)
    | ne =>
      by_cases hc : ¬ x = y
      · exact lv_icmp_ne hx hb hd (sd_tgt (a.1 hc).1) (fun q => (a.1 (fun z => q ((sd_eq hxx hy).mpr z))).2 H locs ls hR hS hl hml hol hos h1 h2) (fun q => a.2 (fun z => z ((sd_eq hxx hy).mp q)) H locs ls hR hS hl hml hol hos h1 h2)
      · exact sd_w2_ne hx hb hd (fun q => hc (fun z => q ((sd_eq hxx hy).mpr z))) (a.2 hc H locs ls hR hS hl hml hol hos h1 h2)
    | lt =>
      by_cases hc : x < y
      · exact lv_icmp_lt hx hb hd (sd_tgt (a.1 hc).1) (fun q => (a.1 ((sd_lt hxx hy).mp q)).2 H locs ls hR hS hl hml hol hos h1 h2) (fun q => a.2 (fun z => q ((sd_lt hxx hy).mpr z)) H locs ls hR hS hl hml hol hos h1 h2)
      · exact sd_w2_lt hx hb hd (fun q => hc ((sd_lt hxx hy).mp q)) (a.2 hc H locs ls hR hS hl hml hol hos h1 h2)
    | ge =>
      by_cases hc : y ≤ x
      · exact lv_icmp_ge hx hb hd (sd_tgt (a.1 hc).1) (fun q => (a.1 ((sd_le hy hxx).mp q)).2 H locs ls hR hS hl hml hol hos h1 h2) (fun q => a.2 (fun z => q ((sd_le hy hxx).mpr z)) H locs ls hR hS hl hml hol hos h1 h2)
      · exact sd_w2_ge hx hb hd (fun q => hc ((sd_le hy hxx).mp q)) (a.2 hc H locs ls hR hS hl hml hol hos h1 h2)
    | gt =>
      by_cases hc : y < x
      · exact lv_icmp_gt hx hb hd (sd_tgt (a.1 hc).1) (fun q => (a.1 ((sd_lt hy hxx).mp q)).2 H locs ls hR hS hl hml hol hos h1 h2) (fun q => a.2 (fun z => q ((sd_lt hy hxx).mpr z)) H locs ls hR hS hl hml hol hos h1 h2)
      · exact sd_w2_gt hx hb hd (fun q => hc ((sd_lt hy hxx).mp q)) (a.2 hc H locs ls hR hS hl hml hol hos h1 h2)
    | le =>
      by_cases hc : x ≤ y
      · exact lv_icmp_le hx hb hd (sd_tgt (a.1 hc).1) (fun q => (a.1 ((sd_le hxx hy).mp q)).2 H locs ls hR hS hl hml hol hos h1 h2) (fun q => a.2 (fun z => q ((sd_le hxx hy).mpr z)) H locs ls hR hS hl hml hol hos h1 h2)
      · exact sd_w2_le hx hb hd (fun q => hc ((sd_le hxx hy).mp q)) (a.2 hc H locs ls hR hS hl hml hol hos h1 h2)
  · exact a.elim
theorem sd_l_if1 (Cx : sd_Cx G p l e R s mm args below meth c m lim n0 D) {cd : Jvm.ClassFile.Cond} {off : Int} (hd : decode (am_code m) pc = .ok (.ifCond cd off, 3)) (a : am_if1 (sd_XX G p l e R s mm args below meth c Q lim n0) pc al st n h cd off) : sd_XX G p l e R s mm args below meth c Q lim n0 pc al st n h := by
  obtain ⟨hx, hb, hown, hts, hSt, hini, hsz, hfr, hlo, hce, hsl⟩ := Cx
  unfold am_if1 at a
  split at a
  · next x r =>
    intro H locs ls hR hS hl hml hol hos h1 h2
    obtain ⟨hxx, hos⟩ := sd_oks_cons.mp hos
    have hxx : inR x := hxx
    have hy : inR 0 := sd_0
    cases cd with
    | eq =>
      by_cases hc : x = 0
      · exact lv_if_eq hx hb hd (sd_tgt (a.1 hc).1) (fun q => (a.1 ((sd_eq hxx hy).mp q)).2 H locs ls hR hS hl hml hol hos h1 h2) (fun q => a.2 (fun z => q ((sd_eq hxx hy).mpr z)) H locs ls hR hS hl hml hol hos h1 h2)
      · exact sd_w1_eq hx hb hd (fun q => hc ((sd_eq hxx hy).mp q)) (a.2 hc H locs ls hR hS hl hml hol hos h1 h2)
    | ne =>
      by_cases hc : ¬ x = 0
      · exact lv_if_ne hx hb hd (sd_tgt (a.1 hc).1) (fun q => (a.1 (fun z => q ((sd_eq hxx hy).mpr z))).2 H locs ls hR hS hl hml hol hos h1 h2) (fun q => a.2 (fun z => z ((sd_eq hxx hy).mp q)) H locs ls hR hS hl hml hol hos h1 h2)
      · exact sd_w1_ne hx hb hd (fun q => hc (fun z => q ((sd_eq hxx hy).mpr z))) (a.2 hc H locs ls hR hS hl hml hol hos h1 h2)
    | lt =>
      by_cases hc : x < 0
      · exact lv_if_lt hx hb hd (sd_tgt (a.1 hc).1) (fun q => (a.1 ((sd_lt hxx hy).mp q)).2 H locs ls hR hS hl hml hol hos h1 h2) (fun q => a.2 (fun z => q ((sd_lt hxx hy).mpr z)) H locs ls hR hS hl hml hol hos h1 h2)
      · exact sd_w1_lt hx hb hd (fun q => hc ((sd_lt hxx hy).mp q)) (a.2 hc H locs ls hR hS hl hml hol hos h1 h2)
    | ge =>
      by_cases hc : 0 ≤ x
      · exact lv_if_ge hx hb hd (sd_tgt (a.1 hc).1) (fun q => (a.1 ((sd_le hy hxx).mp q)).2 H locs ls hR hS hl hml hol hos h1 h2) (fun q => a.2 (fun z => q ((sd_le hy hxx).mpr z)) H locs ls hR hS hl hml hol hos h1 h2)
      · exact sd_w1_ge hx hb hd (fun q => hc ((sd_le hy hxx).mp q)) (a.2 hc H locs ls hR hS hl hml hol hos h1 h2)
    | gt =>
      by_cases hc : 0 < x
      · exact lv_if_gt hx hb hd (sd_tgt (a.1 hc).1) (fun q => (a.1 ((sd_lt hy hxx).mp q)).2 H locs ls hR hS hl hml hol hos h1 h2) (fun q => a.2 (fun z => q ((sd_lt hy hxx).mpr z)) H locs ls hR hS hl hml hol hos h1 h2)
      · exact sd_w1_gt hx hb hd (fun q => hc ((sd_lt hy hxx).mp q)) (a.2 hc H locs ls hR hS hl hml hol hos h1 h2)
    | le =>
      by_cases hc : x ≤ 0
      · exact lv_if_le hx hb hd (sd_tgt (a.1 hc).1) (fun q => (a.1 ((sd_le hxx hy).mp q)).2 H locs ls hR hS hl hml hol hos h1 h2) (fun q => a.2 (fun z => q ((sd_le hxx hy).mpr z)) H locs ls hR hS hl hml hol hos h1 h2)
      · exact sd_w1_le hx hb hd (fun q => hc ((sd_le hxx hy).mp q)) (a.2 hc H locs ls hR hS hl hml hol hos h1 h2)
  · exact a.elim
theorem sd_l_ifn (Cx : sd_Cx G p l e R s mm args below meth c m lim n0 D) {off : Int} (hd : decode (am_code m) pc = .ok (.ifnull off, 3)) (a : am_ifn (sd_XX G p l e R s mm args below meth c Q lim n0) pc al st n h off) : sd_XX G p l e R s mm args below meth c Q lim n0 pc al st n h := by
  obtain ⟨hx, hb, hown, hts, hSt, hini, hsz, hfr, hlo, hce, hsl⟩ := Cx
  unfold am_ifn at a
  split at a
  · next r =>
    intro H locs ls hR hS hl hml hol hos h1 h2
    exact lv_ifnullN hx hb hd (sd_tgt a.1) (a.2 H locs ls hR hS hl hml hol (sd_oks_cons.mp hos).2 h1 h2)
  · next x r =>
    intro H locs ls hR hS hl hml hol hos h1 h2
    exact lv_ifnull hx hb hd (a H locs ls hR hS hl hml hol (sd_oks_cons.mp hos).2 h1 h2)
  · exact a.elim
theorem sd_l_ifnn (Cx : sd_Cx G p l e R s mm args below meth c m lim n0 D) {off : Int} (hd : decode (am_code m) pc = .ok (.ifnonnull off, 3)) (a : am_ifnn (sd_XX G p l e R s mm args below meth c Q lim n0) pc al st n h off) : sd_XX G p l e R s mm args below meth c Q lim n0 pc al st n h := by
  obtain ⟨hx, hb, hown, hts, hSt, hini, hsz, hfr, hlo, hce, hsl⟩ := Cx
  unfold am_ifnn at a
  split at a
  · next x r =>
    intro H locs ls hR hS hl hml hol hos h1 h2
    exact lv_ifnonnull hx hb hd (sd_tgt a.1) (a.2 H locs ls hR hS hl hml hol (sd_oks_cons.mp hos).2 h1 h2)
  · next r =>
    intro H locs ls hR hS hl hml hol hos h1 h2
    exact lv_ifnonnullN hx hb hd (a H locs ls hR hS hl hml hol (sd_oks_cons.mp hos).2 h1 h2)
  · exact a.elim
theorem am_swT_pick {x : Int} {J : Int → Prop} {d : Int} : ∀ (os : List Int) (lo : Int), am_swT x lo os d J → (∃ o, lo ≤ x ∧ os[(x - lo).toNat]? = some o ∧ J o) ∨ ((x < lo ∨ lo + os.length ≤ x) ∧ J d)
  | [], lo, a => Or.inr ⟨by simp; omega, a⟩
  | o :: os, lo, a => by
    by_cases hx : x = lo
    · exact Or.inl ⟨o, by omega, by rw [hx]; simp, a.1 hx⟩
    · rcases am_swT_pick os (lo + 1) (a.2 hx) with ⟨o', h1, h2, h3⟩ | ⟨h1, h2⟩
      · refine Or.inl ⟨o', by omega, ?_, h3⟩
        rw [show (x - lo).toNat = (x - (lo + 1)).toNat + 1 by omega]
        exact h2
      · exact Or.inr ⟨by simp only [List.length_cons]; omega, h2⟩
theorem am_swL_pick {x : Int} {J : Int → Prop} {d : Int} : ∀ (ps : List (Int × Int)), am_swL x ps d J → J (Op.lookupswitch.offset ps d x)
  | [], a => a
  | (k, o) :: ps, a => by
    rw [Op.lookupswitch.offset_cons]
    by_cases hx : x = k
    · rw [if_pos (by first | exact hx | exact hx.symm)]
      exact a.1 hx
    · rw [if_neg (by first | exact hx | exact fun q => hx q.symm)]
      exact am_swL_pick ps (a.2 hx)
theorem sd_l_tsw (Cx : sd_Cx G p l e R s mm args below meth c m lim n0 D) {d lo hi : Int} {os : Array Int} {len : Nat} (hd : decode (am_code m) pc = .ok (.tableswitch d lo hi os, len)) (a : am_tsw (sd_XX G p l e R s mm args below meth c Q lim n0) pc al st n h d lo hi os) : sd_XX G p l e R s mm args below meth c Q lim n0 pc al st n h := by
  obtain ⟨hx, hb, hown, hts, hSt, hini, hsz, hfr, hlo, hce, hsl⟩ := Cx
  unfold am_tsw at a
  split at a
  · next x r =>
    intro H locs ls hR hS hl hml hol hos h1 h2
    obtain ⟨hxx, hos⟩ := sd_oks_cons.mp hos
    have hxx : inR x := hxx
    obtain ⟨e1, a⟩ := a
    rcases am_swT_pick _ _ a with ⟨o, g1, g2, g3⟩ | ⟨g1, g2⟩
    · have hlt : (x - lo).toNat < os.toList.length := (List.getElem?_eq_some_iff.mp g2).1
      exact lv_tableIn hx hb hd (by rw [sd_tI hxx]; omega) (by rw [sd_tI hxx]; omega) (off := o) (by rw [sd_tI hxx, ← Array.getElem?_toList]; exact g2) (sd_tgt g3.1) (g3.2 H locs ls hR hS hl hml hol hos h1 h2)
    · exact lv_tableOut hx hb hd (by rw [sd_tI hxx]; omega) (sd_tgt g2.1) (g2.2 H locs ls hR hS hl hml hol hos h1 h2)
  · exact a.elim
theorem sd_l_lsw (Cx : sd_Cx G p l e R s mm args below meth c m lim n0 D) {d : Int} {ps : Array (Int × Int)} {len : Nat} (hd : decode (am_code m) pc = .ok (.lookupswitch d ps, len)) (a : am_lsw (sd_XX G p l e R s mm args below meth c Q lim n0) pc al st n h d ps) : sd_XX G p l e R s mm args below meth c Q lim n0 pc al st n h := by
  obtain ⟨hx, hb, hown, hts, hSt, hini, hsz, hfr, hlo, hce, hsl⟩ := Cx
  unfold am_lsw at a
  split at a
  · next x r =>
    intro H locs ls hR hS hl hml hol hos h1 h2
    obtain ⟨hxx, hos⟩ := sd_oks_cons.mp hos
    have hxx : inR x := hxx
    obtain ⟨e1, a⟩ := a
    have g := am_swL_pick _ a
    exact lv_lookup hx hb hd e1 (by rw [sd_tI hxx]) (sd_tgt g.1) (g.2 H locs ls hR hS hl hml hol hos h1 h2)
  · exact a.elim
theorem sd_l_dup (Cx : sd_Cx G p l e R s mm args below meth c m lim n0 D) (hd : decode (am_code m) pc = .ok (.dup, 1)) (a : am_dup (sd_XX G p l e R s mm args below meth c Q lim n0) pc al st n h) : sd_XX G p l e R s mm args below meth c Q lim n0 pc al st n h := by
  obtain ⟨hx, hb, hown, hts, hSt, hini, hsz, hfr, hlo, hce, hsl⟩ := Cx
  unfold am_dup at a
  split at a
  · next x r =>
    intro H locs ls hR hS hl hml hol hos h1 h2
    have q := (sd_oks_cons.mp hos).1
    exact lv_dup hx hb hd rfl (a H locs ls hR hS hl hml hol (sd_oks_cons.mpr ⟨q, hos⟩) h1 h2)
  · next x r =>
    intro H locs ls hR hS hl hml hol hos h1 h2
    have q := (sd_oks_cons.mp hos).1
    exact lv_dup hx hb hd (by cases x <;> rfl) (a H locs ls hR hS hl hml hol (sd_oks_cons.mpr ⟨q, hos⟩) h1 h2)
  · exact a.elim
theorem sd_l_dup2 (Cx : sd_Cx G p l e R s mm args below meth c m lim n0 D) (hd : decode (am_code m) pc = .ok (.dup2, 1)) (a : am_dup2 (sd_XX G p l e R s mm args below meth c Q lim n0) pc al st n h) : sd_XX G p l e R s mm args below meth c Q lim n0 pc al st n h := by
  obtain ⟨hx, hb, hown, hts, hSt, hini, hsz, hfr, hlo, hce, hsl⟩ := Cx
  unfold am_dup2 at a
  split at a
  · next x y r =>
    intro H locs ls hR hS hl hml hol hos h1 h2
    obtain ⟨q1, q2⟩ := sd_oks_cons.mp hos
    have q3 := (sd_oks_cons.mp q2).1
    exact lv_dup2_11 hx hb hd rfl (by cases y <;> rfl) (a H locs ls hR hS hl hml hol (sd_oks_cons.mpr ⟨q1, sd_oks_cons.mpr ⟨q3, hos⟩⟩) h1 h2)
  · exact a.elim
end
