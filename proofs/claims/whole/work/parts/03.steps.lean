/-! ONE STEP: what must hold of what comes behind it. X: behind an instruction; Y: behind a call -/
abbrev am_Y : Type := am_X
section
variable (m lim : Nat) (call : am_Q) (K : am_K) (X Y : am_X) (pc : Nat) (al : am_L) (st : List am_V) (n : Nat) (h : am_H)
def am_ild (i len : Nat) : Prop := match am_get al i with
  | some (Sum.inl x) => X (pc + len) al (Sum.inl x :: st) n h
  | _ => False
def am_lld (i len : Nat) : Prop := match am_get al i with
  | some (Sum.inr (Sum.inl x)) => X (pc + len) al (Sum.inr (Sum.inl x) :: st) n h
  | _ => False
def am_ald (i len : Nat) : Prop := match am_get al i with
  | some (Sum.inr (Sum.inr r)) => X (pc + len) al (Sum.inr (Sum.inr r) :: st) n h
  | _ => False
def am_ist (i len : Nat) : Prop := match st with
  | Sum.inl x :: r => (match am_set al i (Sum.inl x) with
    | some al' => X (pc + len) al' r n h
    | none => False)
  | _ => False
def am_ast (i len : Nat) : Prop := match st with
  | Sum.inr (Sum.inr x) :: r => (match am_set al i (Sum.inr (Sum.inr x)) with
    | some al' => X (pc + len) al' r n h
    | none => False)
  | _ => False
def am_lst (i len : Nat) : Prop := match st with
  | Sum.inr (Sum.inl x) :: r => (match am_set al i (Sum.inr (Sum.inl x)) with
    | some al' => (match am_nil al' (i + 1) with
      | some al'' => X (pc + len) al'' r n h
      | none => False)
    | none => False)
  | _ => False
def am_inc (i : Nat) (k : Int) : Prop := match am_get al i with
  | some (Sum.inl x) => (match am_set al i (Sum.inl (wr (x + k))) with
    | some al' => X (pc + 3) al' st n h
    | none => False)
  | _ => False
def am_bin (f : Int → Int → Int) : Prop := match st with
  | Sum.inl b :: Sum.inl a :: r => X (pc + 1) al (Sum.inl (f a b) :: r) n h
  | _ => False
def am_div (f : Int → Int → Int) : Prop := match st with
  | Sum.inl b :: Sum.inl a :: r => ¬ b = 0 ∧ X (pc + 1) al (Sum.inl (f a b) :: r) n h
  | _ => False
def am_ldv (f : Int → Int → Int) : Prop := match st with
  | Sum.inr (Sum.inl b) :: Sum.inr (Sum.inl a) :: r => ¬ b = 0 ∧ X (pc + 1) al (Sum.inr (Sum.inl (f a b)) :: r) n h
  | _ => False
def am_lcp : Prop := match st with
  | Sum.inr (Sum.inl b) :: Sum.inr (Sum.inl a) :: r => X (pc + 1) al (Sum.inl (am_lc a b) :: r) n h
  | _ => False
def am_un (f : Int → Int) : Prop := match st with
  | Sum.inl a :: r => X (pc + 1) al (Sum.inl (f a) :: r) n h
  | _ => False
def am_i2l : Prop := match st with
  | Sum.inl a :: r => X (pc + 1) al (Sum.inr (Sum.inl a) :: r) n h
  | _ => False
def am_if2 (c : Jvm.ClassFile.Cond) (off : Int) : Prop := match st with
  | Sum.inl b :: Sum.inl a :: r => (am_cnd c a b → am_jmp (fun q => X q al r n h) pc off) ∧ (¬ am_cnd c a b → X (pc + 3) al r n h)
  | _ => False
def am_if1 (c : Jvm.ClassFile.Cond) (off : Int) : Prop := match st with
  | Sum.inl a :: r => (am_cnd c a 0 → am_jmp (fun q => X q al r n h) pc off) ∧ (¬ am_cnd c a 0 → X (pc + 3) al r n h)
  | _ => False
def am_ifn (off : Int) : Prop := match st with
  | Sum.inr (Sum.inr none) :: r => am_jmp (fun q => X q al r n h) pc off
  | Sum.inr (Sum.inr (some _)) :: r => X (pc + 3) al r n h
  | _ => False
def am_ifnn (off : Int) : Prop := match st with
  | Sum.inr (Sum.inr (some _)) :: r => am_jmp (fun q => X q al r n h) pc off
  | Sum.inr (Sum.inr none) :: r => X (pc + 3) al r n h
  | _ => False
def am_tsw (d lo hi : Int) (os : Array Int) : Prop := match st with
  | Sum.inl x :: r => hi + 1 = lo + os.toList.length ∧ am_swT x lo os.toList d (fun off => am_jmp (fun q => X q al r n h) pc off)
  | _ => False
def am_lsw (d : Int) (ps : Array (Int × Int)) : Prop := match st with
  | Sum.inl x :: r => am_srt ps.toList = true ∧ am_swL x ps.toList d (fun off => am_jmp (fun q => X q al r n h) pc off)
  | _ => False
def am_dup : Prop := match st with
  | Sum.inl x :: r => X (pc + 1) al (Sum.inl x :: Sum.inl x :: r) n h
  | Sum.inr (Sum.inr x) :: r => X (pc + 1) al (Sum.inr (Sum.inr x) :: Sum.inr (Sum.inr x) :: r) n h
  | _ => False
def am_dup2 : Prop := match st with
  | Sum.inl x :: Sum.inr (Sum.inr y) :: r => X (pc + 1) al (Sum.inl x :: Sum.inr (Sum.inr y) :: Sum.inl x :: Sum.inr (Sum.inr y) :: r) n h
  | _ => False
def am_gf (ix : Nat) : Prop := match am_fl (am_own m) ix with
  | some (ci, k) => (match st with
    | Sum.inr (Sum.inr (some r)) :: rest => (match h r with
      | Sum.inl (c', fs) => c' = ci ∧ (match fs[k]? with
        | some v => X (pc + 3) al (v :: rest) n h
        | none => False)
      | _ => False)
    | _ => False)
  | none => False
def am_pf (ix : Nat) : Prop := match am_fl (am_own m) ix with
  | some (ci, k) => (match st with
    | v :: Sum.inr (Sum.inr (some r)) :: rest => (match h r with
      | Sum.inl (c', fs) => c' = ci ∧ k < fs.length ∧ ((am_ff ci).getD k true = true → am_ini m = true ∧ am_own m = ci) ∧ am_fit ((am_fk ci).getD k 9) v ∧ X (pc + 3) al rest n (am_up h r (Sum.inl (c', fs.set k v)))
      | _ => False)
    | _ => False)
  | none => False
def am_iald : Prop := match st with
  | Sum.inl i :: Sum.inr (Sum.inr (some r)) :: rest => (match h r with
    | Sum.inr (Sum.inl l) => (0 ≤ i ∧ i < l.length) ∧ X (pc + 1) al (Sum.inl (l.getD i.toNat 0) :: rest) n h
    | _ => False)
  | _ => False
def am_iast : Prop := match st with
  | Sum.inl x :: Sum.inl i :: Sum.inr (Sum.inr (some r)) :: rest => (match h r with
    | Sum.inr (Sum.inl l) => ¬ r = 0 ∧ (0 ≤ i ∧ i < l.length) ∧ X (pc + 1) al rest n (am_up h r (Sum.inr (Sum.inl (l.set i.toNat x))))
    | _ => False)
  | _ => False
def am_aald : Prop := match st with
  | Sum.inl i :: Sum.inr (Sum.inr (some r)) :: rest => (match h r with
    | Sum.inr (Sum.inr (_, l)) => (0 ≤ i ∧ i < l.length) ∧ X (pc + 1) al (Sum.inr (Sum.inr (l.getD i.toNat none)) :: rest) n h
    | _ => False)
  | _ => False
def am_aast : Prop := match st with
  | Sum.inr (Sum.inr (some v)) :: Sum.inl i :: Sum.inr (Sum.inr (some r)) :: rest => (match h r, h v with
    | Sum.inr (Sum.inr (ci, l)), Sum.inl (c', _) => c' = ci ∧ (0 ≤ i ∧ i < l.length) ∧ X (pc + 1) al rest n (am_up h r (Sum.inr (Sum.inr (ci, l.set i.toNat (some v)))))
    | _, _ => False)
  | _ => False
def am_alen : Prop := match st with
  | Sum.inr (Sum.inr (some r)) :: rest => (match h r with
    | Sum.inr (Sum.inl l) => r = 0 ∧ X (pc + 1) al (Sum.inl l.length :: rest) n h
    | _ => False)
  | _ => False
def am_new (ix : Nat) : Prop := match am_cll (am_own m) ix with
  | some ci => n + 1 ≤ lim ∧ X (pc + 3) al (Sum.inr (Sum.inr (some (n + 1))) :: st) (n + 1) (am_up h (n + 1) (Sum.inl (ci, (am_fk ci).map am_dflt)))
  | none => False
def am_nea (t : ArrayType) : Prop := match t, st with
  | .int, Sum.inl k :: r => (0 ≤ k ∧ k ≤ 3500) ∧ n + 1 ≤ lim ∧ X (pc + 2) al (Sum.inr (Sum.inr (some (n + 1))) :: r) (n + 1) (am_up h (n + 1) (Sum.inr (Sum.inl (List.replicate k.toNat 0))))
  | _, _ => False
def am_neq (ix : Nat) : Prop := match am_cll (am_own m) ix, st with
  | some ci, Sum.inl k :: r => (0 ≤ k ∧ k ≤ 3500) ∧ (n + 1 ≤ lim ∧ am_isq ci = true) ∧ X (pc + 3) al (Sum.inr (Sum.inr (some (n + 1))) :: r) (n + 1) (am_up h (n + 1) (Sum.inr (Sum.inr (ci, List.replicate k.toNat none))))
  | _, _ => False
/-- System.arraycopy of ints -/
def am_cpy (l g : List Int) (sp dp k : Nat) : List Int := g.take dp ++ (l.drop sp).take k ++ g.drop (dp + k)
def am_acp : Prop := match st with
  | Sum.inl k :: Sum.inl dp :: Sum.inr (Sum.inr (some b)) :: Sum.inl sp :: Sum.inr (Sum.inr (some a)) :: rest => (match h a, h b with
    | Sum.inr (Sum.inl l), Sum.inr (Sum.inl g) => (¬ a = 0 ∧ ¬ b = 0) ∧ (0 ≤ sp ∧ 0 ≤ dp ∧ 0 ≤ k ∧ sp + k ≤ l.length ∧ dp + k ≤ g.length) ∧ rest.length ≤ 4 ∧ X (pc + 3) al rest n (am_up h b (Sum.inr (Sum.inl (am_cpy l g sp.toNat dp.toNat k.toNat))))
    | _, _ => False)
  | _ => False
def am_cal (q : Nat) (args rest : List am_V) : Prop := (rest.length ≤ 4 ∧ (am_sl args).length ≤ am_mx q) ∧ n + am_co q ≤ lim ∧ call q args n h (fun v n' h' => Y (pc + 3) al (am_po v rest) n' h')
def am_cls (q : Nat) : Prop := match am_tk (am_na q) st [] with
  | some (args, rest) => am_cal lim call Y pc al n h q args rest
  | none => False
def am_clv (q : Nat) : Prop := match am_tk (am_na q) st [] with
  | some (Sum.inr (Sum.inr (some r)) :: args, rest) => (match h r with
    | Sum.inl (c', _) => c' = am_own q ∧ am_cal lim call Y pc al n h q (Sum.inr (Sum.inr (some r)) :: args) rest
    | _ => False)
  | _ => False
def am_cli (q : Nat) : Prop := match am_tk (am_na q) st [] with
  | some (Sum.inr (Sum.inr (some r)) :: args, rest) => am_cal lim call Y pc al n h q (Sum.inr (Sum.inr (some r)) :: args) rest
  | _ => False
def am_obi : Prop := match st with
  | Sum.inr (Sum.inr (some _)) :: rest => rest.length ≤ 4 ∧ X (pc + 3) al rest n h
  | _ => False
def am_ivs (ix : Nat) : Prop := match am_ml (am_own m) ix with
  | some (5, _) => am_acp X pc al st n h
  | some (1, q) => am_cls lim call Y pc al st n h q
  | some (3, q) => am_cls lim call Y pc al st n h q
  | _ => False
def am_ivv (ix : Nat) : Prop := match am_ml (am_own m) ix with
  | some (0, q) => am_clv lim call Y pc al st n h q
  | _ => False
def am_ivi (ix : Nat) : Prop := match am_ml (am_own m) ix with
  | some (6, _) => am_obi X pc al st n h
  | some (2, q) => am_cli lim call Y pc al st n h q
  | some (4, q) => am_cli lim call Y pc al st n h q
  | _ => False
def am_irt : Prop := match st with
  | [Sum.inl x] => (match am_rt m with
    | 1 => (x = 0 ∨ x = 1) ∧ n = lim ∧ K (some (Sum.inl x)) n h
    | 2 => n = lim ∧ K (some (Sum.inl x)) n h
    | _ => False)
  | _ => False
def am_lrt : Prop := match st with
  | [Sum.inr (Sum.inl x)] => (match am_rt m with
    | 3 => n = lim ∧ K (some (Sum.inr (Sum.inl x))) n h
    | _ => False)
  | _ => False
def am_art : Prop := match st with
  | [Sum.inr (Sum.inr x)] => (match am_rt m with
    | 4 => n = lim ∧ K (some (Sum.inr (Sum.inr x))) n h
    | _ => False)
  | _ => False
def am_vrt : Prop := match st with
  | [] => (match am_rt m with
    | 0 => n = lim ∧ K none n h
    | _ => False)
  | _ => False
def am_ldc (o : Option Int) : Prop := match o with
  | some x => X (pc + 3) al (Sum.inl (wr x) :: st) n h
  | none => False
def am_ldc2 (o : Option Int) : Prop := match o with
  | some x => X (pc + 3) al (Sum.inr (Sum.inl (wrL x)) :: st) n h
  | none => False
def am_stp (i : Instr) : Prop := match i with
  | .iconst x => X (pc + 1) al (Sum.inl (wr x) :: st) n h
  | .bipush x => X (pc + 2) al (Sum.inl (am_b8 x) :: st) n h
  | .sipush x => X (pc + 3) al (Sum.inl (am_s16 x) :: st) n h
  | .lconst x => X (pc + 1) al (Sum.inr (Sum.inl ((x : Nat) : Int)) :: st) n h
  | .aconst_null => X (pc + 1) al (Sum.inr (Sum.inr none) :: st) n h
  | .ldc_w ix => am_ldc X pc al st n h (am_ci (am_own m) ix)
  | .ldc2_w ix => am_ldc2 X pc al st n h (am_cg (am_own m) ix)
  | .iload_n i => am_ild X pc al st n h i 1
  | .iload i => am_ild X pc al st n h i 2
  | .lload_n i => am_lld X pc al st n h i 1
  | .lload i => am_lld X pc al st n h i 2
  | .aload_n i => am_ald X pc al st n h i 1
  | .aload i => am_ald X pc al st n h i 2
  | .istore_n i => am_ist X pc al st n h i 1
  | .istore i => am_ist X pc al st n h i 2
  | .astore_n i => am_ast X pc al st n h i 1
  | .astore i => am_ast X pc al st n h i 2
  | .lstore i => am_lst X pc al st n h i 2
  | .iinc i k => am_inc X pc al st n h i k
  | .iadd => am_bin X pc al st n h (fun a b => wr (a + b))
  | .isub => am_bin X pc al st n h (fun a b => wr (a - b))
  | .imul => am_bin X pc al st n h (fun a b => wr (a * b))
  | .iand => am_bin X pc al st n h am_and
  | .ior => am_bin X pc al st n h am_or
  | .ixor => am_bin X pc al st n h am_xor
  | .ishl => am_bin X pc al st n h am_shl
  | .ishr => am_bin X pc al st n h am_shr
  | .iushr => am_bin X pc al st n h am_ush
  | .idiv => am_div X pc al st n h (fun a b => wr (a.tdiv b))
  | .irem => am_div X pc al st n h (fun a b => a.tmod b)
  | .ldiv => am_ldv X pc al st n h (fun a b => wrL (a.tdiv b))
  | .lrem => am_ldv X pc al st n h (fun a b => a.tmod b)
  | .lcmp => am_lcp X pc al st n h
  | .i2b => am_un X pc al st n h am_b8
  | .i2s => am_un X pc al st n h am_s16
  | .i2l => am_i2l X pc al st n h
  | .goto off => am_jmp (fun q => X q al st n h) pc off
  | .if_icmp c off => am_if2 X pc al st n h c off
  | .ifCond c off => am_if1 X pc al st n h c off
  | .ifnull off => am_ifn X pc al st n h off
  | .ifnonnull off => am_ifnn X pc al st n h off
  | .tableswitch d lo hi os => am_tsw X pc al st n h d lo hi os
  | .lookupswitch d ps => am_lsw X pc al st n h d ps
  | .dup => am_dup X pc al st n h
  | .dup2 => am_dup2 X pc al st n h
  | .getfield ix => am_gf m X pc al st n h ix
  | .putfield ix => am_pf m X pc al st n h ix
  | .iaload => am_iald X pc al st n h
  | .iastore => am_iast X pc al st n h
  | .aaload => am_aald X pc al st n h
  | .aastore => am_aast X pc al st n h
  | .arraylength => am_alen X pc al st n h
  | .new ix => am_new m lim X pc al st n h ix
  | .newarray t => am_nea lim X pc al st n h t
  | .anewarray ix => am_neq m lim X pc al st n h ix
  | .invokestatic ix => am_ivs m lim call X Y pc al st n h ix
  | .invokevirtual ix => am_ivv m lim call Y pc al st n h ix
  | .invokespecial ix => am_ivi m lim call X Y pc al st n h ix
  | .ireturn => am_irt m lim K st n h
  | .lreturn => am_lrt m lim K st n h
  | .areturn => am_art m lim K st n h
  | .return_ => am_vrt m lim K st n h
  | _ => False
def am_F : Prop := match am_dc m pc with
  | some i => am_stp m lim call K X Y pc al st n h i
  | none => False
end
/-- the method m from a place on -/
def am_W (m lim : Nat) (call : am_Q) (K : am_K) (pc : Nat) (al : am_L) (st : List am_V) (n : Nat) (h : am_H) : Prop :=
  ∀ X : am_X, (∀ pc al st n h, am_F m lim call K X X pc al st n h → X pc al st n h) → (∀ pc al al' st n h, am_le al al' → X pc al st n h → X pc al' st n h) → X pc al st n h
/-- some steps at once; at places of 'stops' it stops -/
def am_ev (m lim : Nat) (call : am_Q) (K : am_K) (stops : List Nat) : Nat → am_X
  | 0 => fun pc al st n h => am_W m lim call K pc al st n h
  | k + 1 => fun pc al st n h => if stops.contains pc then am_W m lim call K pc al st n h else am_F m lim call K (am_ev m lim call K stops k) (am_W m lim call K) pc al st n h
/-- a call at depth d -/
def am_M : Nat → am_Q
  | 0 => fun _ _ _ _ _ => False
  | d + 1 => fun m args n h K => am_W m (n + am_co m) (am_M d) K 0 (am_pad (am_mx m) (am_sl args)) [] n h
/-! it is monotone -/
def am_cm (call : am_Q) : Prop := ∀ (q : Nat) (args : List am_V) (n : Nat) (h : am_H) (K K' : am_K), (∀ v n h, K v n h → K' v n h) → call q args n h K → call q args n h K'
section
variable {m lim : Nat} {call : am_Q} {K K' : am_K} {X X' Y Y' : am_X} {pc : Nat} {al : am_L} {st : List am_V} {n : Nat} {h : am_H}
theorem am_jmp_mono {P P' : Nat → Prop} (hP : ∀ q, P q → P' q) {off : Int} (a : am_jmp P pc off) : am_jmp P' pc off := ⟨a.1, hP _ a.2⟩
theorem am_swT_mono {x : Int} {J J' : Int → Prop} (hJ : ∀ o, J o → J' o) {d : Int} : ∀ (os : List Int) (lo : Int), am_swT x lo os d J → am_swT x lo os d J'
  | [], _, a => hJ _ a
  | _ :: os, _, a => ⟨fun e => hJ _ (a.1 e), fun e => am_swT_mono hJ os _ (a.2 e)⟩
theorem am_swL_mono {x : Int} {J J' : Int → Prop} (hJ : ∀ o, J o → J' o) {d : Int} : ∀ (ps : List (Int × Int)), am_swL x ps d J → am_swL x ps d J'
  | [], a => hJ _ a
  | (_, _) :: ps, a => ⟨fun e => hJ _ (a.1 e), fun e => am_swL_mono hJ ps (a.2 e)⟩
theorem am_ild_mono {i len : Nat} (hX : ∀ pc al st n h, X pc al st n h → X' pc al st n h) (a : am_ild X pc al st n h i len) : am_ild X' pc al st n h i len := by
  unfold am_ild at *
  split at a <;> first | exact a.elim | exact hX _ _ _ _ _ a
theorem am_lld_mono {i len : Nat} (hX : ∀ pc al st n h, X pc al st n h → X' pc al st n h) (a : am_lld X pc al st n h i len) : am_lld X' pc al st n h i len := by
  unfold am_lld at *
  split at a <;> first | exact a.elim | exact hX _ _ _ _ _ a
theorem am_ald_mono {i len : Nat} (hX : ∀ pc al st n h, X pc al st n h → X' pc al st n h) (a : am_ald X pc al st n h i len) : am_ald X' pc al st n h i len := by
  unfold am_ald at *
  split at a <;> first | exact a.elim | exact hX _ _ _ _ _ a
theorem am_ldc_mono {o : Option Int} (hX : ∀ pc al st n h, X pc al st n h → X' pc al st n h) (a : am_ldc X pc al st n h o) : am_ldc X' pc al st n h o := by
  unfold am_ldc at *
  split at a <;> first | exact a.elim | exact hX _ _ _ _ _ a
theorem am_ldc2_mono {o : Option Int} (hX : ∀ pc al st n h, X pc al st n h → X' pc al st n h) (a : am_ldc2 X pc al st n h o) : am_ldc2 X' pc al st n h o := by
  unfold am_ldc2 at *
  split at a <;> first | exact a.elim | exact hX _ _ _ _ _ a
theorem am_bin_mono {f : Int → Int → Int} (hX : ∀ pc al st n h, X pc al st n h → X' pc al st n h) (a : am_bin X pc al st n h f) : am_bin X' pc al st n h f := by
  unfold am_bin at *
  split at a <;> first | exact a.elim | exact hX _ _ _ _ _ a
theorem am_div_mono {f : Int → Int → Int} (hX : ∀ pc al st n h, X pc al st n h → X' pc al st n h) (a : am_div X pc al st n h f) : am_div X' pc al st n h f := by
  unfold am_div at *
  split at a <;> first | exact a.elim | exact ⟨a.1, hX _ _ _ _ _ a.2⟩
theorem am_ldv_mono {f : Int → Int → Int} (hX : ∀ pc al st n h, X pc al st n h → X' pc al st n h) (a : am_ldv X pc al st n h f) : am_ldv X' pc al st n h f := by
  unfold am_ldv at *
  split at a <;> first | exact a.elim | exact ⟨a.1, hX _ _ _ _ _ a.2⟩
theorem am_un_mono {f : Int → Int} (hX : ∀ pc al st n h, X pc al st n h → X' pc al st n h) (a : am_un X pc al st n h f) : am_un X' pc al st n h f := by
  unfold am_un at *
  split at a <;> first | exact a.elim | exact hX _ _ _ _ _ a
theorem am_i2l_mono (hX : ∀ pc al st n h, X pc al st n h → X' pc al st n h) (a : am_i2l X pc al st n h) : am_i2l X' pc al st n h := by
  unfold am_i2l at *
  split at a <;> first | exact a.elim | exact hX _ _ _ _ _ a
theorem am_lcp_mono (hX : ∀ pc al st n h, X pc al st n h → X' pc al st n h) (a : am_lcp X pc al st n h) : am_lcp X' pc al st n h := by
  unfold am_lcp at *
  split at a <;> first | exact a.elim | exact hX _ _ _ _ _ a
theorem am_dup_mono (hX : ∀ pc al st n h, X pc al st n h → X' pc al st n h) (a : am_dup X pc al st n h) : am_dup X' pc al st n h := by
  unfold am_dup at *
  split at a <;> first | exact a.elim | exact hX _ _ _ _ _ a
theorem am_dup2_mono (hX : ∀ pc al st n h, X pc al st n h → X' pc al st n h) (a : am_dup2 X pc al st n h) : am_dup2 X' pc al st n h := by
  unfold am_dup2 at *
  split at a <;> first | exact a.elim | exact hX _ _ _ _ _ a
theorem am_if2_mono {c : Jvm.ClassFile.Cond} {off : Int} (hX : ∀ pc al st n h, X pc al st n h → X' pc al st n h) (a : am_if2 X pc al st n h c off) : am_if2 X' pc al st n h c off := by
  unfold am_if2 at *
  have hj : ∀ {al : am_L} {r : List am_V} {n : Nat} {h : am_H} {off : Int}, am_jmp (fun q => X q al r n h) pc off → am_jmp (fun q => X' q al r n h) pc off := fun b => am_jmp_mono (fun q => hX _ _ _ _ _) b
  split at a <;> first | exact a.elim | exact ⟨fun e => hj (a.1 e), fun e => hX _ _ _ _ _ (a.2 e)⟩
theorem am_if1_mono {c : Jvm.ClassFile.Cond} {off : Int} (hX : ∀ pc al st n h, X pc al st n h → X' pc al st n h) (a : am_if1 X pc al st n h c off) : am_if1 X' pc al st n h c off := by
  unfold am_if1 at *
  have hj : ∀ {al : am_L} {r : List am_V} {n : Nat} {h : am_H} {off : Int}, am_jmp (fun q => X q al r n h) pc off → am_jmp (fun q => X' q al r n h) pc off := fun b => am_jmp_mono (fun q => hX _ _ _ _ _) b
  split at a <;> first | exact a.elim | exact ⟨fun e => hj (a.1 e), fun e => hX _ _ _ _ _ (a.2 e)⟩
theorem am_ifn_mono {off : Int} (hX : ∀ pc al st n h, X pc al st n h → X' pc al st n h) (a : am_ifn X pc al st n h off) : am_ifn X' pc al st n h off := by
  unfold am_ifn at *
  have hj : ∀ {al : am_L} {r : List am_V} {n : Nat} {h : am_H} {off : Int}, am_jmp (fun q => X q al r n h) pc off → am_jmp (fun q => X' q al r n h) pc off := fun b => am_jmp_mono (fun q => hX _ _ _ _ _) b
  split at a <;> first | exact a.elim | exact hj a | exact hX _ _ _ _ _ a
theorem am_ifnn_mono {off : Int} (hX : ∀ pc al st n h, X pc al st n h → X' pc al st n h) (a : am_ifnn X pc al st n h off) : am_ifnn X' pc al st n h off := by
  unfold am_ifnn at *
  have hj : ∀ {al : am_L} {r : List am_V} {n : Nat} {h : am_H} {off : Int}, am_jmp (fun q => X q al r n h) pc off → am_jmp (fun q => X' q al r n h) pc off := fun b => am_jmp_mono (fun q => hX _ _ _ _ _) b
  split at a <;> first | exact a.elim | exact hj a | exact hX _ _ _ _ _ a
theorem am_tsw_mono {d lo hi : Int} {os : Array Int} (hX : ∀ pc al st n h, X pc al st n h → X' pc al st n h) (a : am_tsw X pc al st n h d lo hi os) : am_tsw X' pc al st n h d lo hi os := by
  unfold am_tsw at *
  have hj : ∀ {al : am_L} {r : List am_V} {n : Nat} {h : am_H} {off : Int}, am_jmp (fun q => X q al r n h) pc off → am_jmp (fun q => X' q al r n h) pc off := fun b => am_jmp_mono (fun q => hX _ _ _ _ _) b
  split at a <;> first | exact a.elim | exact ⟨a.1, am_swT_mono (fun _ => hj) _ _ a.2⟩
theorem am_lsw_mono {d : Int} {ps : Array (Int × Int)} (hX : ∀ pc al st n h, X pc al st n h → X' pc al st n h) (a : am_lsw X pc al st n h d ps) : am_lsw X' pc al st n h d ps := by
  unfold am_lsw at *
  have hj : ∀ {al : am_L} {r : List am_V} {n : Nat} {h : am_H} {off : Int}, am_jmp (fun q => X q al r n h) pc off → am_jmp (fun q => X' q al r n h) pc off := fun b => am_jmp_mono (fun q => hX _ _ _ _ _) b
  split at a <;> first | exact a.elim | exact ⟨a.1, am_swL_mono (fun _ => hj) _ a.2⟩
theorem am_ist_mono {i len : Nat} (hX : ∀ pc al st n h, X pc al st n h → X' pc al st n h) (a : am_ist X pc al st n h i len) : am_ist X' pc al st n h i len := by
  unfold am_ist at *
  split at a <;> first | exact a.elim | (split at a <;> first | exact a.elim | exact hX _ _ _ _ _ a)
theorem am_ast_mono {i len : Nat} (hX : ∀ pc al st n h, X pc al st n h → X' pc al st n h) (a : am_ast X pc al st n h i len) : am_ast X' pc al st n h i len := by
  unfold am_ast at *
  split at a <;> first | exact a.elim | (split at a <;> first | exact a.elim | exact hX _ _ _ _ _ a)
theorem am_lst_mono {i len : Nat} (hX : ∀ pc al st n h, X pc al st n h → X' pc al st n h) (a : am_lst X pc al st n h i len) : am_lst X' pc al st n h i len := by
  unfold am_lst at *
  split at a <;> first | exact a.elim | (split at a <;> first | exact a.elim | (split at a <;> first | exact a.elim | exact hX _ _ _ _ _ a))
theorem am_inc_mono {i : Nat} {k : Int} (hX : ∀ pc al st n h, X pc al st n h → X' pc al st n h) (a : am_inc X pc al st n h i k) : am_inc X' pc al st n h i k := by
  unfold am_inc at *
  split at a <;> first | exact a.elim | (split at a <;> first | exact a.elim | exact hX _ _ _ _ _ a)
theorem am_gf_mono {ix : Nat} (hX : ∀ pc al st n h, X pc al st n h → X' pc al st n h) (a : am_gf m X pc al st n h ix) : am_gf m X' pc al st n h ix := by
  unfold am_gf at *
  split at a <;> first | exact a.elim | (split at a <;> first | exact a.elim | (split at a <;> first | exact a.elim | (refine ⟨a.1, ?_⟩; have a := a.2; split at a <;> first | exact a.elim | exact hX _ _ _ _ _ a)))
theorem am_pf_mono {ix : Nat} (hX : ∀ pc al st n h, X pc al st n h → X' pc al st n h) (a : am_pf m X pc al st n h ix) : am_pf m X' pc al st n h ix := by
  unfold am_pf at *
  split at a <;> first | exact a.elim | (split at a <;> first | exact a.elim | (split at a <;> first | exact a.elim | exact ⟨a.1, a.2.1, a.2.2.1, a.2.2.2.1, hX _ _ _ _ _ a.2.2.2.2⟩))
theorem am_iald_mono (hX : ∀ pc al st n h, X pc al st n h → X' pc al st n h) (a : am_iald X pc al st n h) : am_iald X' pc al st n h := by
  unfold am_iald at *
  split at a <;> first | exact a.elim | (split at a <;> first | exact a.elim | exact ⟨a.1, hX _ _ _ _ _ a.2⟩)
theorem am_aald_mono (hX : ∀ pc al st n h, X pc al st n h → X' pc al st n h) (a : am_aald X pc al st n h) : am_aald X' pc al st n h := by
  unfold am_aald at *
  split at a <;> first | exact a.elim | (split at a <;> first | exact a.elim | exact ⟨a.1, hX _ _ _ _ _ a.2⟩)
theorem am_alen_mono (hX : ∀ pc al st n h, X pc al st n h → X' pc al st n h) (a : am_alen X pc al st n h) : am_alen X' pc al st n h := by
  unfold am_alen at *
  split at a <;> first | exact a.elim | (split at a <;> first | exact a.elim | exact ⟨a.1, hX _ _ _ _ _ a.2⟩)
theorem am_iast_mono (hX : ∀ pc al st n h, X pc al st n h → X' pc al st n h) (a : am_iast X pc al st n h) : am_iast X' pc al st n h := by
  unfold am_iast at *
  split at a <;> first | exact a.elim | (split at a <;> first | exact a.elim | exact ⟨a.1, a.2.1, hX _ _ _ _ _ a.2.2⟩)
theorem am_aast_mono (hX : ∀ pc al st n h, X pc al st n h → X' pc al st n h) (a : am_aast X pc al st n h) : am_aast X' pc al st n h := by
  unfold am_aast at *
  split at a <;> first | exact a.elim | (split at a <;> first | exact a.elim | exact ⟨a.1, a.2.1, hX _ _ _ _ _ a.2.2⟩)
theorem am_new_mono {ix : Nat} (hX : ∀ pc al st n h, X pc al st n h → X' pc al st n h) (a : am_new m lim X pc al st n h ix) : am_new m lim X' pc al st n h ix := by
  unfold am_new at *
  split at a <;> first | exact a.elim | exact ⟨a.1, hX _ _ _ _ _ a.2⟩
theorem am_nea_mono {t : ArrayType} (hX : ∀ pc al st n h, X pc al st n h → X' pc al st n h) (a : am_nea lim X pc al st n h t) : am_nea lim X' pc al st n h t := by
  unfold am_nea at *
  split at a <;> first | exact a.elim | exact ⟨a.1, a.2.1, hX _ _ _ _ _ a.2.2⟩
theorem am_neq_mono {ix : Nat} (hX : ∀ pc al st n h, X pc al st n h → X' pc al st n h) (a : am_neq m lim X pc al st n h ix) : am_neq m lim X' pc al st n h ix := by
  unfold am_neq at *
  split at a <;> first | exact a.elim | exact ⟨a.1, a.2.1, hX _ _ _ _ _ a.2.2⟩
theorem am_acp_mono (hX : ∀ pc al st n h, X pc al st n h → X' pc al st n h) (a : am_acp X pc al st n h) : am_acp X' pc al st n h := by
  unfold am_acp at *
  split at a <;> first | exact a.elim | (split at a <;> first | exact a.elim | exact ⟨a.1, a.2.1, a.2.2.1, hX _ _ _ _ _ a.2.2.2⟩)
theorem am_cal_mono {q : Nat} {args rest : List am_V} (hc : am_cm call) (hY : ∀ pc al st n h, Y pc al st n h → Y' pc al st n h) (b : am_cal lim call Y pc al n h q args rest) : am_cal lim call Y' pc al n h q args rest := ⟨b.1, b.2.1, hc _ _ _ _ _ _ (fun v n h => hY _ _ _ _ _) b.2.2⟩
theorem am_cls_mono {q : Nat} (hc : am_cm call) (hY : ∀ pc al st n h, Y pc al st n h → Y' pc al st n h) (a : am_cls lim call Y pc al st n h q) : am_cls lim call Y' pc al st n h q := by
  unfold am_cls at *
  split at a <;> first | exact a.elim | exact am_cal_mono hc hY a
theorem am_clv_mono {q : Nat} (hc : am_cm call) (hY : ∀ pc al st n h, Y pc al st n h → Y' pc al st n h) (a : am_clv lim call Y pc al st n h q) : am_clv lim call Y' pc al st n h q := by
  unfold am_clv at *
  split at a <;> first | exact a.elim | (split at a <;> first | exact a.elim | exact ⟨a.1, am_cal_mono hc hY a.2⟩)
theorem am_cli_mono {q : Nat} (hc : am_cm call) (hY : ∀ pc al st n h, Y pc al st n h → Y' pc al st n h) (a : am_cli lim call Y pc al st n h q) : am_cli lim call Y' pc al st n h q := by
  unfold am_cli at *
  split at a <;> first | exact a.elim | exact am_cal_mono hc hY a
theorem am_obi_mono (hX : ∀ pc al st n h, X pc al st n h → X' pc al st n h) (a : am_obi X pc al st n h) : am_obi X' pc al st n h := by
  unfold am_obi at *
  split at a <;> first | exact a.elim | exact ⟨a.1, hX _ _ _ _ _ a.2⟩
theorem am_ivs_mono {ix : Nat} (hc : am_cm call) (hX : ∀ pc al st n h, X pc al st n h → X' pc al st n h) (hY : ∀ pc al st n h, Y pc al st n h → Y' pc al st n h) (a : am_ivs m lim call X Y pc al st n h ix) : am_ivs m lim call X' Y' pc al st n h ix := by
  unfold am_ivs at *
  split at a <;> first | exact a.elim | exact am_acp_mono hX a | exact am_cls_mono hc hY a
theorem am_ivv_mono {ix : Nat} (hc : am_cm call) (hY : ∀ pc al st n h, Y pc al st n h → Y' pc al st n h) (a : am_ivv m lim call Y pc al st n h ix) : am_ivv m lim call Y' pc al st n h ix := by
  unfold am_ivv at *
  split at a <;> first | exact a.elim | exact am_clv_mono hc hY a
theorem am_ivi_mono {ix : Nat} (hc : am_cm call) (hX : ∀ pc al st n h, X pc al st n h → X' pc al st n h) (hY : ∀ pc al st n h, Y pc al st n h → Y' pc al st n h) (a : am_ivi m lim call X Y pc al st n h ix) : am_ivi m lim call X' Y' pc al st n h ix := by
  unfold am_ivi at *
  split at a <;> first | exact a.elim | exact am_obi_mono hX a | exact am_cli_mono hc hY a
theorem am_irt_mono (hK : ∀ v n h, K v n h → K' v n h) (a : am_irt m lim K st n h) : am_irt m lim K' st n h := by
  unfold am_irt at *
  split at a <;> first | exact a.elim | (split at a <;> first | exact a.elim | exact ⟨a.1, a.2.1, hK _ _ _ a.2.2⟩ | exact ⟨a.1, hK _ _ _ a.2⟩)
theorem am_lrt_mono (hK : ∀ v n h, K v n h → K' v n h) (a : am_lrt m lim K st n h) : am_lrt m lim K' st n h := by
  unfold am_lrt at *
  split at a <;> first | exact a.elim | (split at a <;> first | exact a.elim | exact ⟨a.1, hK _ _ _ a.2⟩)
theorem am_art_mono (hK : ∀ v n h, K v n h → K' v n h) (a : am_art m lim K st n h) : am_art m lim K' st n h := by
  unfold am_art at *
  split at a <;> first | exact a.elim | (split at a <;> first | exact a.elim | exact ⟨a.1, hK _ _ _ a.2⟩)
theorem am_vrt_mono (hK : ∀ v n h, K v n h → K' v n h) (a : am_vrt m lim K st n h) : am_vrt m lim K' st n h := by
  unfold am_vrt at *
  split at a <;> first | exact a.elim | (split at a <;> first | exact a.elim | exact ⟨a.1, hK _ _ _ a.2⟩)
set_option maxHeartbeats 4000000 in
theorem am_stp_mono (hc : am_cm call) (hK : ∀ v n h, K v n h → K' v n h) (hX : ∀ pc al st n h, X pc al st n h → X' pc al st n h) (hY : ∀ pc al st n h, Y pc al st n h → Y' pc al st n h) {i : Instr} (a : am_stp m lim call K X Y pc al st n h i) : am_stp m lim call K' X' Y' pc al st n h i := by
  cases i <;> first
    | exact a.elim
    | exact hX _ _ _ _ _ a
    | exact am_jmp_mono (fun q => hX _ _ _ _ _) a
    | exact am_ild_mono hX a
    | exact am_lld_mono hX a
    | exact am_ald_mono hX a
    | exact am_ldc_mono hX a
    | exact am_ldc2_mono hX a
    | exact am_bin_mono hX a
    | exact am_div_mono hX a
    | exact am_ldv_mono hX a
    | exact am_un_mono hX a
    | exact am_i2l_mono hX a
    | exact am_lcp_mono hX a
    | exact am_dup_mono hX a
    | exact am_dup2_mono hX a
    | exact am_if2_mono hX a
    | exact am_if1_mono hX a
    | exact am_ifn_mono hX a
    | exact am_ifnn_mono hX a
    | exact am_tsw_mono hX a
    | exact am_lsw_mono hX a
    | exact am_ist_mono hX a
    | exact am_ast_mono hX a
    | exact am_lst_mono hX a
    | exact am_inc_mono hX a
    | exact am_gf_mono hX a
    | exact am_pf_mono hX a
    | exact am_iald_mono hX a
    | exact am_aald_mono hX a
    | exact am_alen_mono hX a
    | exact am_iast_mono hX a
    | exact am_aast_mono hX a
    | exact am_new_mono hX a
    | exact am_nea_mono hX a
    | exact am_neq_mono hX a
    | exact am_ivs_mono hc hX hY a
    | exact am_ivv_mono hc hY a
    | exact am_ivi_mono hc hX hY a
    | exact am_irt_mono hK a
    | exact am_lrt_mono hK a
    | exact am_art_mono hK a
    | exact am_vrt_mono hK a
theorem am_F_mono (hc : am_cm call) (hK : ∀ v n h, K v n h → K' v n h) (hX : ∀ pc al st n h, X pc al st n h → X' pc al st n h) (hY : ∀ pc al st n h, Y pc al st n h → Y' pc al st n h) (a : am_F m lim call K X Y pc al st n h) : am_F m lim call K' X' Y' pc al st n h := by
  unfold am_F at *
  split at a
  · exact am_stp_mono hc hK hX hY a
  · exact a.elim
theorem am_W.fold (hc : am_cm call) (a : am_F m lim call K (am_W m lim call K) (am_W m lim call K) pc al st n h) : am_W m lim call K pc al st n h :=
  fun X hX hL => hX _ _ _ _ _ (am_F_mono hc (fun _ _ _ b => b) (fun _ _ _ _ _ b => b X hX hL) (fun _ _ _ _ _ b => b X hX hL) a)
theorem am_W.less {al' : am_L} (hl : am_le al al') (a : am_W m lim call K pc al st n h) : am_W m lim call K pc al' st n h :=
  fun X hX hL => hL _ _ _ _ _ _ hl (a X hX hL)
theorem am_W.mono (hc : am_cm call) (hK : ∀ v n h, K v n h → K' v n h) (a : am_W m lim call K pc al st n h) : am_W m lim call K' pc al st n h :=
  a (fun pc al st n h => am_W m lim call K' pc al st n h) (fun _ _ _ _ _ b => am_W.fold hc (am_F_mono hc hK (fun _ _ _ _ _ b => b) (fun _ _ _ _ _ b => b) b)) (fun _ _ _ _ _ _ hl b => b.less hl)
theorem am_M_cm : ∀ d, am_cm (am_M d)
  | 0 => fun _ _ _ _ _ _ _ a => a.elim
  | d + 1 => fun _ _ _ _ _ _ hK a => am_W.mono (am_M_cm d) hK a
theorem am_ev_W (hc : am_cm call) {stops : List Nat} : ∀ (k : Nat) (pc : Nat) (al : am_L) (st : List am_V) (n : Nat) (h : am_H), am_ev m lim call K stops k pc al st n h → am_W m lim call K pc al st n h
  | 0, _, _, _, _, _, a => a
  | k + 1, pc, al, st, n, h, a => by
    unfold am_ev at a
    split at a
    · exact a
    · exact am_W.fold hc (am_F_mono hc (fun _ _ _ b => b) (am_ev_W hc k) (fun _ _ _ _ _ b => b) a)
/-- begin to run: the place itself may be one of the stops -/
theorem am_go (d : Nat) (stops : List Nat) (k : Nat) (a : am_F m lim (am_M d) K (am_ev m lim (am_M d) K stops k) (am_W m lim (am_M d) K) pc al st n h) : am_W m lim (am_M d) K pc al st n h :=
  am_W.fold (am_M_cm d) (am_F_mono (am_M_cm d) (fun _ _ _ b => b) (am_ev_W (am_M_cm d) k) (fun _ _ _ _ _ b => b) a)
theorem am_Mc {d q : Nat} {args : List am_V} (hK : ∀ v n h, K v n h → K' v n h) (a : am_M d q args n h K) : am_M d q args n h K' := am_M_cm d _ _ _ _ _ _ hK a
end
