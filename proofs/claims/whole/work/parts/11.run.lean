/-! RUNNING 2: rows for simp -/
section
variable {m lim : Nat} {call : am_Q} {K : am_K} {X Y : am_X} {pc : Nat} {al : am_L} {st rest : List am_V} {n : Nat} {h : am_H} {x0 x1 x2 x3 x4 x5 x6 x7 x8 x9 xw : Option am_V} {a b : Int} {r q i ix c' ci k : Nat} {o : Option Nat} {v w : am_V} {P : Nat → Prop}
theorem am_jmp_e {off : Int} : am_jmp P pc off = (0 ≤ (pc : Int) + off ∧ P ((pc : Int) + off).toNat) := rfl
theorem am_cst {k : Nat} : ((@OfNat.ofNat Nat k (instOfNatNat k) : Nat) : Int) = @OfNat.ofNat Int k instOfNat := rfl
theorem am_uu {c d : am_C} : am_up (am_up h r c) r d = am_up h r d := by
  funext q
  unfold am_up
  split <;> rfl
theorem am_c3 : ((3 : Nat) : Int) = 3 := rfl
theorem am_c4 : ((4 : Nat) : Int) = 4 := rfl
theorem am_c6 : ((6 : Nat) : Int) = 6 := rfl
theorem am_c7 : ((7 : Nat) : Int) = 7 := rfl
theorem am_c8 : ((8 : Nat) : Int) = 8 := rfl
theorem am_c9 : ((9 : Nat) : Int) = 9 := rfl
theorem am_c27 : ((27 : Nat) : Int) = 27 := rfl
theorem am_c60 : ((60 : Nat) : Int) = 60 := rfl
theorem am_c240 : ((240 : Nat) : Int) = 240 := rfl
theorem am_c418 : ((418 : Nat) : Int) = 418 := rfl
theorem am_c3500 : ((3500 : Nat) : Int) = 3500 := rfl
theorem am_kil_n : am_kil none = none := rfl
theorem am_kil_i : am_kil (some (Sum.inl a)) = some (Sum.inl a) := rfl
theorem am_kil_r : am_kil (some (Sum.inr (Sum.inr o))) = some (Sum.inr (Sum.inr o)) := rfl
theorem am_kil_l : am_kil (some (Sum.inr (Sum.inl a))) = none := rfl
theorem am_po_s : am_po (some v) rest = v :: rest := rfl
theorem am_po_n : am_po none rest = rest := rfl
theorem s_bipush_m100 : am_stp m lim call K X Y pc al st n h (.bipush (-100)) = X (pc + 2) al (Sum.inl (-100) :: st) n h := (by show X _ _ (Sum.inl (am_b8 (-100)) :: _) _ _ = _; rw [show am_b8 (-100) = (-100) by decide])
theorem s_bipush_m10 : am_stp m lim call K X Y pc al st n h (.bipush (-10)) = X (pc + 2) al (Sum.inl (-10) :: st) n h := (by show X _ _ (Sum.inl (am_b8 (-10)) :: _) _ _ = _; rw [show am_b8 (-10) = (-10) by decide])
theorem s_bipush_m9 : am_stp m lim call K X Y pc al st n h (.bipush (-9)) = X (pc + 2) al (Sum.inl (-9) :: st) n h := (by show X _ _ (Sum.inl (am_b8 (-9)) :: _) _ _ = _; rw [show am_b8 (-9) = (-9) by decide])
theorem s_bipush_m4 : am_stp m lim call K X Y pc al st n h (.bipush (-4)) = X (pc + 2) al (Sum.inl (-4) :: st) n h := (by show X _ _ (Sum.inl (am_b8 (-4)) :: _) _ _ = _; rw [show am_b8 (-4) = (-4) by decide])
theorem s_bipush_m3 : am_stp m lim call K X Y pc al st n h (.bipush (-3)) = X (pc + 2) al (Sum.inl (-3) :: st) n h := (by show X _ _ (Sum.inl (am_b8 (-3)) :: _) _ _ = _; rw [show am_b8 (-3) = (-3) by decide])
theorem s_bipush_m2 : am_stp m lim call K X Y pc al st n h (.bipush (-2)) = X (pc + 2) al (Sum.inl (-2) :: st) n h := (by show X _ _ (Sum.inl (am_b8 (-2)) :: _) _ _ = _; rw [show am_b8 (-2) = (-2) by decide])
theorem s_bipush_6 : am_stp m lim call K X Y pc al st n h (.bipush 6) = X (pc + 2) al (Sum.inl 6 :: st) n h := (by show X _ _ (Sum.inl (am_b8 6) :: _) _ _ = _; rw [show am_b8 6 = 6 by decide])
theorem s_bipush_7 : am_stp m lim call K X Y pc al st n h (.bipush 7) = X (pc + 2) al (Sum.inl 7 :: st) n h := (by show X _ _ (Sum.inl (am_b8 7) :: _) _ _ = _; rw [show am_b8 7 = 7 by decide])
theorem s_bipush_8 : am_stp m lim call K X Y pc al st n h (.bipush 8) = X (pc + 2) al (Sum.inl 8 :: st) n h := (by show X _ _ (Sum.inl (am_b8 8) :: _) _ _ = _; rw [show am_b8 8 = 8 by decide])
theorem s_bipush_9 : am_stp m lim call K X Y pc al st n h (.bipush 9) = X (pc + 2) al (Sum.inl 9 :: st) n h := (by show X _ _ (Sum.inl (am_b8 9) :: _) _ _ = _; rw [show am_b8 9 = 9 by decide])
theorem s_bipush_10 : am_stp m lim call K X Y pc al st n h (.bipush 10) = X (pc + 2) al (Sum.inl 10 :: st) n h := (by show X _ _ (Sum.inl (am_b8 10) :: _) _ _ = _; rw [show am_b8 10 = 10 by decide])
theorem s_bipush_12 : am_stp m lim call K X Y pc al st n h (.bipush 12) = X (pc + 2) al (Sum.inl 12 :: st) n h := (by show X _ _ (Sum.inl (am_b8 12) :: _) _ _ = _; rw [show am_b8 12 = 12 by decide])
theorem s_bipush_14 : am_stp m lim call K X Y pc al st n h (.bipush 14) = X (pc + 2) al (Sum.inl 14 :: st) n h := (by show X _ _ (Sum.inl (am_b8 14) :: _) _ _ = _; rw [show am_b8 14 = 14 by decide])
theorem s_bipush_16 : am_stp m lim call K X Y pc al st n h (.bipush 16) = X (pc + 2) al (Sum.inl 16 :: st) n h := (by show X _ _ (Sum.inl (am_b8 16) :: _) _ _ = _; rw [show am_b8 16 = 16 by decide])
theorem s_bipush_20 : am_stp m lim call K X Y pc al st n h (.bipush 20) = X (pc + 2) al (Sum.inl 20 :: st) n h := (by show X _ _ (Sum.inl (am_b8 20) :: _) _ _ = _; rw [show am_b8 20 = 20 by decide])
theorem s_bipush_21 : am_stp m lim call K X Y pc al st n h (.bipush 21) = X (pc + 2) al (Sum.inl 21 :: st) n h := (by show X _ _ (Sum.inl (am_b8 21) :: _) _ _ = _; rw [show am_b8 21 = 21 by decide])
theorem s_bipush_27 : am_stp m lim call K X Y pc al st n h (.bipush 27) = X (pc + 2) al (Sum.inl 27 :: st) n h := (by show X _ _ (Sum.inl (am_b8 27) :: _) _ _ = _; rw [show am_b8 27 = 27 by decide])
theorem s_bipush_30 : am_stp m lim call K X Y pc al st n h (.bipush 30) = X (pc + 2) al (Sum.inl 30 :: st) n h := (by show X _ _ (Sum.inl (am_b8 30) :: _) _ _ = _; rw [show am_b8 30 = 30 by decide])
theorem s_bipush_31 : am_stp m lim call K X Y pc al st n h (.bipush 31) = X (pc + 2) al (Sum.inl 31 :: st) n h := (by show X _ _ (Sum.inl (am_b8 31) :: _) _ _ = _; rw [show am_b8 31 = 31 by decide])
theorem s_bipush_48 : am_stp m lim call K X Y pc al st n h (.bipush 48) = X (pc + 2) al (Sum.inl 48 :: st) n h := (by show X _ _ (Sum.inl (am_b8 48) :: _) _ _ = _; rw [show am_b8 48 = 48 by decide])
theorem s_bipush_59 : am_stp m lim call K X Y pc al st n h (.bipush 59) = X (pc + 2) al (Sum.inl 59 :: st) n h := (by show X _ _ (Sum.inl (am_b8 59) :: _) _ _ = _; rw [show am_b8 59 = 59 by decide])
theorem s_bipush_60 : am_stp m lim call K X Y pc al st n h (.bipush 60) = X (pc + 2) al (Sum.inl 60 :: st) n h := (by show X _ _ (Sum.inl (am_b8 60) :: _) _ _ = _; rw [show am_b8 60 = 60 by decide])
theorem s_bipush_63 : am_stp m lim call K X Y pc al st n h (.bipush 63) = X (pc + 2) al (Sum.inl 63 :: st) n h := (by show X _ _ (Sum.inl (am_b8 63) :: _) _ _ = _; rw [show am_b8 63 = 63 by decide])
theorem s_bipush_98 : am_stp m lim call K X Y pc al st n h (.bipush 98) = X (pc + 2) al (Sum.inl 98 :: st) n h := (by show X _ _ (Sum.inl (am_b8 98) :: _) _ _ = _; rw [show am_b8 98 = 98 by decide])
theorem s_bipush_99 : am_stp m lim call K X Y pc al st n h (.bipush 99) = X (pc + 2) al (Sum.inl 99 :: st) n h := (by show X _ _ (Sum.inl (am_b8 99) :: _) _ _ = _; rw [show am_b8 99 = 99 by decide])
theorem s_bipush_100 : am_stp m lim call K X Y pc al st n h (.bipush 100) = X (pc + 2) al (Sum.inl 100 :: st) n h := (by show X _ _ (Sum.inl (am_b8 100) :: _) _ _ = _; rw [show am_b8 100 = 100 by decide])
theorem s_bipush_102 : am_stp m lim call K X Y pc al st n h (.bipush 102) = X (pc + 2) al (Sum.inl 102 :: st) n h := (by show X _ _ (Sum.inl (am_b8 102) :: _) _ _ = _; rw [show am_b8 102 = 102 by decide])
theorem s_bipush_110 : am_stp m lim call K X Y pc al st n h (.bipush 110) = X (pc + 2) al (Sum.inl 110 :: st) n h := (by show X _ _ (Sum.inl (am_b8 110) :: _) _ _ = _; rw [show am_b8 110 = 110 by decide])
theorem s_bipush_111 : am_stp m lim call K X Y pc al st n h (.bipush 111) = X (pc + 2) al (Sum.inl 111 :: st) n h := (by show X _ _ (Sum.inl (am_b8 111) :: _) _ _ = _; rw [show am_b8 111 = 111 by decide])
theorem s_bipush_112 : am_stp m lim call K X Y pc al st n h (.bipush 112) = X (pc + 2) al (Sum.inl 112 :: st) n h := (by show X _ _ (Sum.inl (am_b8 112) :: _) _ _ = _; rw [show am_b8 112 = 112 by decide])
theorem s_bipush_119 : am_stp m lim call K X Y pc al st n h (.bipush 119) = X (pc + 2) al (Sum.inl 119 :: st) n h := (by show X _ _ (Sum.inl (am_b8 119) :: _) _ _ = _; rw [show am_b8 119 = 119 by decide])
theorem s_iconst_m1 : am_stp m lim call K X Y pc al st n h (.iconst (-1)) = X (pc + 1) al (Sum.inl (-1) :: st) n h := (by show X _ _ (Sum.inl (wr (-1)) :: _) _ _ = _; rw [show wr (-1) = (-1) by decide])
theorem s_iconst_0 : am_stp m lim call K X Y pc al st n h (.iconst 0) = X (pc + 1) al (Sum.inl 0 :: st) n h := (by show X _ _ (Sum.inl (wr 0) :: _) _ _ = _; rw [show wr 0 = 0 by decide])
theorem s_iconst_1 : am_stp m lim call K X Y pc al st n h (.iconst 1) = X (pc + 1) al (Sum.inl 1 :: st) n h := (by show X _ _ (Sum.inl (wr 1) :: _) _ _ = _; rw [show wr 1 = 1 by decide])
theorem s_iconst_2 : am_stp m lim call K X Y pc al st n h (.iconst 2) = X (pc + 1) al (Sum.inl 2 :: st) n h := (by show X _ _ (Sum.inl (wr 2) :: _) _ _ = _; rw [show wr 2 = 2 by decide])
theorem s_iconst_3 : am_stp m lim call K X Y pc al st n h (.iconst 3) = X (pc + 1) al (Sum.inl 3 :: st) n h := (by show X _ _ (Sum.inl (wr 3) :: _) _ _ = _; rw [show wr 3 = 3 by decide])
theorem s_iconst_4 : am_stp m lim call K X Y pc al st n h (.iconst 4) = X (pc + 1) al (Sum.inl 4 :: st) n h := (by show X _ _ (Sum.inl (wr 4) :: _) _ _ = _; rw [show wr 4 = 4 by decide])
theorem s_iconst_5 : am_stp m lim call K X Y pc al st n h (.iconst 5) = X (pc + 1) al (Sum.inl 5 :: st) n h := (by show X _ _ (Sum.inl (wr 5) :: _) _ _ = _; rw [show wr 5 = 5 by decide])
theorem s_sipush_200 : am_stp m lim call K X Y pc al st n h (.sipush 200) = X (pc + 3) al (Sum.inl 200 :: st) n h := (by show X _ _ (Sum.inl (am_s16 200) :: _) _ _ = _; rw [show am_s16 200 = 200 by decide])
theorem s_sipush_201 : am_stp m lim call K X Y pc al st n h (.sipush 201) = X (pc + 3) al (Sum.inl 201 :: st) n h := (by show X _ _ (Sum.inl (am_s16 201) :: _) _ _ = _; rw [show am_s16 201 = 201 by decide])
theorem s_sipush_240 : am_stp m lim call K X Y pc al st n h (.sipush 240) = X (pc + 3) al (Sum.inl 240 :: st) n h := (by show X _ _ (Sum.inl (am_s16 240) :: _) _ _ = _; rw [show am_s16 240 = 240 by decide])
theorem s_sipush_418 : am_stp m lim call K X Y pc al st n h (.sipush 418) = X (pc + 3) al (Sum.inl 418 :: st) n h := (by show X _ _ (Sum.inl (am_s16 418) :: _) _ _ = _; rw [show am_s16 418 = 418 by decide])
theorem s_sipush_1728 : am_stp m lim call K X Y pc al st n h (.sipush 1728) = X (pc + 3) al (Sum.inl 1728 :: st) n h := (by show X _ _ (Sum.inl (am_s16 1728) :: _) _ _ = _; rw [show am_s16 1728 = 1728 by decide])
theorem s_sipush_3500 : am_stp m lim call K X Y pc al st n h (.sipush 3500) = X (pc + 3) al (Sum.inl 3500 :: st) n h := (by show X _ _ (Sum.inl (am_s16 3500) :: _) _ _ = _; rw [show am_s16 3500 = 3500 by decide])
theorem s_lconst_0 : am_stp m lim call K X Y pc al st n h (.lconst 0) = X (pc + 1) al (Sum.inr (Sum.inl 0) :: st) n h := rfl
theorem s_lconst_1 : am_stp m lim call K X Y pc al st n h (.lconst 1) = X (pc + 1) al (Sum.inr (Sum.inl 1) :: st) n h := rfl
theorem s_anull : am_stp m lim call K X Y pc al st n h .aconst_null = X (pc + 1) al (Sum.inr (Sum.inr none) :: st) n h := rfl
theorem s_iload_0 : am_stp m lim call K X Y pc (some (Sum.inl a) :: al) st n h (.iload 0) = X (pc + 2) (some (Sum.inl a) :: al) (Sum.inl a :: st) n h := rfl
theorem s_aload_0 : am_stp m lim call K X Y pc (some (Sum.inr (Sum.inr o)) :: al) st n h (.aload 0) = X (pc + 2) (some (Sum.inr (Sum.inr o)) :: al) (Sum.inr (Sum.inr o) :: st) n h := rfl
theorem s_lload_0 : am_stp m lim call K X Y pc (some (Sum.inr (Sum.inl a)) :: al) st n h (.lload 0) = X (pc + 2) (some (Sum.inr (Sum.inl a)) :: al) (Sum.inr (Sum.inl a) :: st) n h := rfl
theorem s_istore_0 : am_stp m lim call K X Y pc (xw :: al) (Sum.inl a :: st) n h (.istore 0) = X (pc + 2) (some (Sum.inl a) :: al) st n h := rfl
theorem s_astore_0 : am_stp m lim call K X Y pc (xw :: al) (Sum.inr (Sum.inr o) :: st) n h (.astore 0) = X (pc + 2) (some (Sum.inr (Sum.inr o)) :: al) st n h := rfl
theorem s_iload_n_0 : am_stp m lim call K X Y pc (some (Sum.inl a) :: al) st n h (.iload_n 0) = X (pc + 1) (some (Sum.inl a) :: al) (Sum.inl a :: st) n h := rfl
theorem s_aload_n_0 : am_stp m lim call K X Y pc (some (Sum.inr (Sum.inr o)) :: al) st n h (.aload_n 0) = X (pc + 1) (some (Sum.inr (Sum.inr o)) :: al) (Sum.inr (Sum.inr o) :: st) n h := rfl
theorem s_lload_n_0 : am_stp m lim call K X Y pc (some (Sum.inr (Sum.inl a)) :: al) st n h (.lload_n 0) = X (pc + 1) (some (Sum.inr (Sum.inl a)) :: al) (Sum.inr (Sum.inl a) :: st) n h := rfl
theorem s_istore_n_0 : am_stp m lim call K X Y pc (xw :: al) (Sum.inl a :: st) n h (.istore_n 0) = X (pc + 1) (some (Sum.inl a) :: al) st n h := rfl
theorem s_astore_n_0 : am_stp m lim call K X Y pc (xw :: al) (Sum.inr (Sum.inr o) :: st) n h (.astore_n 0) = X (pc + 1) (some (Sum.inr (Sum.inr o)) :: al) st n h := rfl
theorem s_lstore_0 {w9 : Option am_V} : am_stp m lim call K X Y pc (xw :: w9 :: al) (Sum.inr (Sum.inl a) :: st) n h (.lstore 0) = X (pc + 2) (some (Sum.inr (Sum.inl a)) :: none :: al) st n h := rfl
theorem s_iinc_0 : am_stp m lim call K X Y pc (some (Sum.inl a) :: al) st n h (.iinc 0 b) = X (pc + 3) (some (Sum.inl (wr (a + b))) :: al) st n h := rfl
theorem s_iload_1 : am_stp m lim call K X Y pc (x0 :: some (Sum.inl a) :: al) st n h (.iload 1) = X (pc + 2) (x0 :: some (Sum.inl a) :: al) (Sum.inl a :: st) n h := rfl
theorem s_aload_1 : am_stp m lim call K X Y pc (x0 :: some (Sum.inr (Sum.inr o)) :: al) st n h (.aload 1) = X (pc + 2) (x0 :: some (Sum.inr (Sum.inr o)) :: al) (Sum.inr (Sum.inr o) :: st) n h := rfl
theorem s_lload_1 : am_stp m lim call K X Y pc (x0 :: some (Sum.inr (Sum.inl a)) :: al) st n h (.lload 1) = X (pc + 2) (x0 :: some (Sum.inr (Sum.inl a)) :: al) (Sum.inr (Sum.inl a) :: st) n h := rfl
theorem s_istore_1 : am_stp m lim call K X Y pc (x0 :: xw :: al) (Sum.inl a :: st) n h (.istore 1) = X (pc + 2) (am_kil x0 :: some (Sum.inl a) :: al) st n h := rfl
theorem s_astore_1 : am_stp m lim call K X Y pc (x0 :: xw :: al) (Sum.inr (Sum.inr o) :: st) n h (.astore 1) = X (pc + 2) (am_kil x0 :: some (Sum.inr (Sum.inr o)) :: al) st n h := rfl
theorem s_iload_n_1 : am_stp m lim call K X Y pc (x0 :: some (Sum.inl a) :: al) st n h (.iload_n 1) = X (pc + 1) (x0 :: some (Sum.inl a) :: al) (Sum.inl a :: st) n h := rfl
theorem s_aload_n_1 : am_stp m lim call K X Y pc (x0 :: some (Sum.inr (Sum.inr o)) :: al) st n h (.aload_n 1) = X (pc + 1) (x0 :: some (Sum.inr (Sum.inr o)) :: al) (Sum.inr (Sum.inr o) :: st) n h := rfl
theorem s_lload_n_1 : am_stp m lim call K X Y pc (x0 :: some (Sum.inr (Sum.inl a)) :: al) st n h (.lload_n 1) = X (pc + 1) (x0 :: some (Sum.inr (Sum.inl a)) :: al) (Sum.inr (Sum.inl a) :: st) n h := rfl
theorem s_istore_n_1 : am_stp m lim call K X Y pc (x0 :: xw :: al) (Sum.inl a :: st) n h (.istore_n 1) = X (pc + 1) (am_kil x0 :: some (Sum.inl a) :: al) st n h := rfl
theorem s_astore_n_1 : am_stp m lim call K X Y pc (x0 :: xw :: al) (Sum.inr (Sum.inr o) :: st) n h (.astore_n 1) = X (pc + 1) (am_kil x0 :: some (Sum.inr (Sum.inr o)) :: al) st n h := rfl
theorem s_lstore_1 {w9 : Option am_V} : am_stp m lim call K X Y pc (x0 :: xw :: w9 :: al) (Sum.inr (Sum.inl a) :: st) n h (.lstore 1) = X (pc + 2) (am_kil x0 :: some (Sum.inr (Sum.inl a)) :: none :: al) st n h := rfl
theorem s_iinc_1 : am_stp m lim call K X Y pc (x0 :: some (Sum.inl a) :: al) st n h (.iinc 1 b) = X (pc + 3) (am_kil x0 :: some (Sum.inl (wr (a + b))) :: al) st n h := rfl
theorem s_iload_2 : am_stp m lim call K X Y pc (x0 :: x1 :: some (Sum.inl a) :: al) st n h (.iload 2) = X (pc + 2) (x0 :: x1 :: some (Sum.inl a) :: al) (Sum.inl a :: st) n h := rfl
theorem s_aload_2 : am_stp m lim call K X Y pc (x0 :: x1 :: some (Sum.inr (Sum.inr o)) :: al) st n h (.aload 2) = X (pc + 2) (x0 :: x1 :: some (Sum.inr (Sum.inr o)) :: al) (Sum.inr (Sum.inr o) :: st) n h := rfl
theorem s_lload_2 : am_stp m lim call K X Y pc (x0 :: x1 :: some (Sum.inr (Sum.inl a)) :: al) st n h (.lload 2) = X (pc + 2) (x0 :: x1 :: some (Sum.inr (Sum.inl a)) :: al) (Sum.inr (Sum.inl a) :: st) n h := rfl
theorem s_istore_2 : am_stp m lim call K X Y pc (x0 :: x1 :: xw :: al) (Sum.inl a :: st) n h (.istore 2) = X (pc + 2) (x0 :: am_kil x1 :: some (Sum.inl a) :: al) st n h := rfl
theorem s_astore_2 : am_stp m lim call K X Y pc (x0 :: x1 :: xw :: al) (Sum.inr (Sum.inr o) :: st) n h (.astore 2) = X (pc + 2) (x0 :: am_kil x1 :: some (Sum.inr (Sum.inr o)) :: al) st n h := rfl
theorem s_iload_n_2 : am_stp m lim call K X Y pc (x0 :: x1 :: some (Sum.inl a) :: al) st n h (.iload_n 2) = X (pc + 1) (x0 :: x1 :: some (Sum.inl a) :: al) (Sum.inl a :: st) n h := rfl
theorem s_aload_n_2 : am_stp m lim call K X Y pc (x0 :: x1 :: some (Sum.inr (Sum.inr o)) :: al) st n h (.aload_n 2) = X (pc + 1) (x0 :: x1 :: some (Sum.inr (Sum.inr o)) :: al) (Sum.inr (Sum.inr o) :: st) n h := rfl
theorem s_lload_n_2 : am_stp m lim call K X Y pc (x0 :: x1 :: some (Sum.inr (Sum.inl a)) :: al) st n h (.lload_n 2) = X (pc + 1) (x0 :: x1 :: some (Sum.inr (Sum.inl a)) :: al) (Sum.inr (Sum.inl a) :: st) n h := rfl
theorem s_istore_n_2 : am_stp m lim call K X Y pc (x0 :: x1 :: xw :: al) (Sum.inl a :: st) n h (.istore_n 2) = X (pc + 1) (x0 :: am_kil x1 :: some (Sum.inl a) :: al) st n h := rfl
theorem s_astore_n_2 : am_stp m lim call K X Y pc (x0 :: x1 :: xw :: al) (Sum.inr (Sum.inr o) :: st) n h (.astore_n 2) = X (pc + 1) (x0 :: am_kil x1 :: some (Sum.inr (Sum.inr o)) :: al) st n h := rfl
theorem s_lstore_2 {w9 : Option am_V} : am_stp m lim call K X Y pc (x0 :: x1 :: xw :: w9 :: al) (Sum.inr (Sum.inl a) :: st) n h (.lstore 2) = X (pc + 2) (x0 :: am_kil x1 :: some (Sum.inr (Sum.inl a)) :: none :: al) st n h := rfl
theorem s_iinc_2 : am_stp m lim call K X Y pc (x0 :: x1 :: some (Sum.inl a) :: al) st n h (.iinc 2 b) = X (pc + 3) (x0 :: am_kil x1 :: some (Sum.inl (wr (a + b))) :: al) st n h := rfl
theorem s_iload_3 : am_stp m lim call K X Y pc (x0 :: x1 :: x2 :: some (Sum.inl a) :: al) st n h (.iload 3) = X (pc + 2) (x0 :: x1 :: x2 :: some (Sum.inl a) :: al) (Sum.inl a :: st) n h := rfl
theorem s_aload_3 : am_stp m lim call K X Y pc (x0 :: x1 :: x2 :: some (Sum.inr (Sum.inr o)) :: al) st n h (.aload 3) = X (pc + 2) (x0 :: x1 :: x2 :: some (Sum.inr (Sum.inr o)) :: al) (Sum.inr (Sum.inr o) :: st) n h := rfl
theorem s_lload_3 : am_stp m lim call K X Y pc (x0 :: x1 :: x2 :: some (Sum.inr (Sum.inl a)) :: al) st n h (.lload 3) = X (pc + 2) (x0 :: x1 :: x2 :: some (Sum.inr (Sum.inl a)) :: al) (Sum.inr (Sum.inl a) :: st) n h := rfl
theorem s_istore_3 : am_stp m lim call K X Y pc (x0 :: x1 :: x2 :: xw :: al) (Sum.inl a :: st) n h (.istore 3) = X (pc + 2) (x0 :: x1 :: am_kil x2 :: some (Sum.inl a) :: al) st n h := rfl
theorem s_astore_3 : am_stp m lim call K X Y pc (x0 :: x1 :: x2 :: xw :: al) (Sum.inr (Sum.inr o) :: st) n h (.astore 3) = X (pc + 2) (x0 :: x1 :: am_kil x2 :: some (Sum.inr (Sum.inr o)) :: al) st n h := rfl
theorem s_iload_n_3 : am_stp m lim call K X Y pc (x0 :: x1 :: x2 :: some (Sum.inl a) :: al) st n h (.iload_n 3) = X (pc + 1) (x0 :: x1 :: x2 :: some (Sum.inl a) :: al) (Sum.inl a :: st) n h := rfl
theorem s_aload_n_3 : am_stp m lim call K X Y pc (x0 :: x1 :: x2 :: some (Sum.inr (Sum.inr o)) :: al) st n h (.aload_n 3) = X (pc + 1) (x0 :: x1 :: x2 :: some (Sum.inr (Sum.inr o)) :: al) (Sum.inr (Sum.inr o) :: st) n h := rfl
theorem s_lload_n_3 : am_stp m lim call K X Y pc (x0 :: x1 :: x2 :: some (Sum.inr (Sum.inl a)) :: al) st n h (.lload_n 3) = X (pc + 1) (x0 :: x1 :: x2 :: some (Sum.inr (Sum.inl a)) :: al) (Sum.inr (Sum.inl a) :: st) n h := rfl
theorem s_istore_n_3 : am_stp m lim call K X Y pc (x0 :: x1 :: x2 :: xw :: al) (Sum.inl a :: st) n h (.istore_n 3) = X (pc + 1) (x0 :: x1 :: am_kil x2 :: some (Sum.inl a) :: al) st n h := rfl
theorem s_astore_n_3 : am_stp m lim call K X Y pc (x0 :: x1 :: x2 :: xw :: al) (Sum.inr (Sum.inr o) :: st) n h (.astore_n 3) = X (pc + 1) (x0 :: x1 :: am_kil x2 :: some (Sum.inr (Sum.inr o)) :: al) st n h := rfl
theorem s_lstore_3 {w9 : Option am_V} : am_stp m lim call K X Y pc (x0 :: x1 :: x2 :: xw :: w9 :: al) (Sum.inr (Sum.inl a) :: st) n h (.lstore 3) = X (pc + 2) (x0 :: x1 :: am_kil x2 :: some (Sum.inr (Sum.inl a)) :: none :: al) st n h := rfl
theorem s_iinc_3 : am_stp m lim call K X Y pc (x0 :: x1 :: x2 :: some (Sum.inl a) :: al) st n h (.iinc 3 b) = X (pc + 3) (x0 :: x1 :: am_kil x2 :: some (Sum.inl (wr (a + b))) :: al) st n h := rfl
theorem s_iload_4 : am_stp m lim call K X Y pc (x0 :: x1 :: x2 :: x3 :: some (Sum.inl a) :: al) st n h (.iload 4) = X (pc + 2) (x0 :: x1 :: x2 :: x3 :: some (Sum.inl a) :: al) (Sum.inl a :: st) n h := rfl
theorem s_aload_4 : am_stp m lim call K X Y pc (x0 :: x1 :: x2 :: x3 :: some (Sum.inr (Sum.inr o)) :: al) st n h (.aload 4) = X (pc + 2) (x0 :: x1 :: x2 :: x3 :: some (Sum.inr (Sum.inr o)) :: al) (Sum.inr (Sum.inr o) :: st) n h := rfl
theorem s_lload_4 : am_stp m lim call K X Y pc (x0 :: x1 :: x2 :: x3 :: some (Sum.inr (Sum.inl a)) :: al) st n h (.lload 4) = X (pc + 2) (x0 :: x1 :: x2 :: x3 :: some (Sum.inr (Sum.inl a)) :: al) (Sum.inr (Sum.inl a) :: st) n h := rfl
theorem s_istore_4 : am_stp m lim call K X Y pc (x0 :: x1 :: x2 :: x3 :: xw :: al) (Sum.inl a :: st) n h (.istore 4) = X (pc + 2) (x0 :: x1 :: x2 :: am_kil x3 :: some (Sum.inl a) :: al) st n h := rfl
theorem s_astore_4 : am_stp m lim call K X Y pc (x0 :: x1 :: x2 :: x3 :: xw :: al) (Sum.inr (Sum.inr o) :: st) n h (.astore 4) = X (pc + 2) (x0 :: x1 :: x2 :: am_kil x3 :: some (Sum.inr (Sum.inr o)) :: al) st n h := rfl
theorem s_lstore_4 {w9 : Option am_V} : am_stp m lim call K X Y pc (x0 :: x1 :: x2 :: x3 :: xw :: w9 :: al) (Sum.inr (Sum.inl a) :: st) n h (.lstore 4) = X (pc + 2) (x0 :: x1 :: x2 :: am_kil x3 :: some (Sum.inr (Sum.inl a)) :: none :: al) st n h := rfl
theorem s_iinc_4 : am_stp m lim call K X Y pc (x0 :: x1 :: x2 :: x3 :: some (Sum.inl a) :: al) st n h (.iinc 4 b) = X (pc + 3) (x0 :: x1 :: x2 :: am_kil x3 :: some (Sum.inl (wr (a + b))) :: al) st n h := rfl
theorem s_iload_5 : am_stp m lim call K X Y pc (x0 :: x1 :: x2 :: x3 :: x4 :: some (Sum.inl a) :: al) st n h (.iload 5) = X (pc + 2) (x0 :: x1 :: x2 :: x3 :: x4 :: some (Sum.inl a) :: al) (Sum.inl a :: st) n h := rfl
theorem s_aload_5 : am_stp m lim call K X Y pc (x0 :: x1 :: x2 :: x3 :: x4 :: some (Sum.inr (Sum.inr o)) :: al) st n h (.aload 5) = X (pc + 2) (x0 :: x1 :: x2 :: x3 :: x4 :: some (Sum.inr (Sum.inr o)) :: al) (Sum.inr (Sum.inr o) :: st) n h := rfl
theorem s_lload_5 : am_stp m lim call K X Y pc (x0 :: x1 :: x2 :: x3 :: x4 :: some (Sum.inr (Sum.inl a)) :: al) st n h (.lload 5) = X (pc + 2) (x0 :: x1 :: x2 :: x3 :: x4 :: some (Sum.inr (Sum.inl a)) :: al) (Sum.inr (Sum.inl a) :: st) n h := rfl
theorem s_istore_5 : am_stp m lim call K X Y pc (x0 :: x1 :: x2 :: x3 :: x4 :: xw :: al) (Sum.inl a :: st) n h (.istore 5) = X (pc + 2) (x0 :: x1 :: x2 :: x3 :: am_kil x4 :: some (Sum.inl a) :: al) st n h := rfl
theorem s_astore_5 : am_stp m lim call K X Y pc (x0 :: x1 :: x2 :: x3 :: x4 :: xw :: al) (Sum.inr (Sum.inr o) :: st) n h (.astore 5) = X (pc + 2) (x0 :: x1 :: x2 :: x3 :: am_kil x4 :: some (Sum.inr (Sum.inr o)) :: al) st n h := rfl
theorem s_lstore_5 {w9 : Option am_V} : am_stp m lim call K X Y pc (x0 :: x1 :: x2 :: x3 :: x4 :: xw :: w9 :: al) (Sum.inr (Sum.inl a) :: st) n h (.lstore 5) = X (pc + 2) (x0 :: x1 :: x2 :: x3 :: am_kil x4 :: some (Sum.inr (Sum.inl a)) :: none :: al) st n h := rfl
theorem s_iinc_5 : am_stp m lim call K X Y pc (x0 :: x1 :: x2 :: x3 :: x4 :: some (Sum.inl a) :: al) st n h (.iinc 5 b) = X (pc + 3) (x0 :: x1 :: x2 :: x3 :: am_kil x4 :: some (Sum.inl (wr (a + b))) :: al) st n h := rfl
theorem s_iload_6 : am_stp m lim call K X Y pc (x0 :: x1 :: x2 :: x3 :: x4 :: x5 :: some (Sum.inl a) :: al) st n h (.iload 6) = X (pc + 2) (x0 :: x1 :: x2 :: x3 :: x4 :: x5 :: some (Sum.inl a) :: al) (Sum.inl a :: st) n h := rfl
theorem s_aload_6 : am_stp m lim call K X Y pc (x0 :: x1 :: x2 :: x3 :: x4 :: x5 :: some (Sum.inr (Sum.inr o)) :: al) st n h (.aload 6) = X (pc + 2) (x0 :: x1 :: x2 :: x3 :: x4 :: x5 :: some (Sum.inr (Sum.inr o)) :: al) (Sum.inr (Sum.inr o) :: st) n h := rfl
theorem s_lload_6 : am_stp m lim call K X Y pc (x0 :: x1 :: x2 :: x3 :: x4 :: x5 :: some (Sum.inr (Sum.inl a)) :: al) st n h (.lload 6) = X (pc + 2) (x0 :: x1 :: x2 :: x3 :: x4 :: x5 :: some (Sum.inr (Sum.inl a)) :: al) (Sum.inr (Sum.inl a) :: st) n h := rfl
theorem s_istore_6 : am_stp m lim call K X Y pc (x0 :: x1 :: x2 :: x3 :: x4 :: x5 :: xw :: al) (Sum.inl a :: st) n h (.istore 6) = X (pc + 2) (x0 :: x1 :: x2 :: x3 :: x4 :: am_kil x5 :: some (Sum.inl a) :: al) st n h := rfl
theorem s_astore_6 : am_stp m lim call K X Y pc (x0 :: x1 :: x2 :: x3 :: x4 :: x5 :: xw :: al) (Sum.inr (Sum.inr o) :: st) n h (.astore 6) = X (pc + 2) (x0 :: x1 :: x2 :: x3 :: x4 :: am_kil x5 :: some (Sum.inr (Sum.inr o)) :: al) st n h := rfl
theorem s_lstore_6 {w9 : Option am_V} : am_stp m lim call K X Y pc (x0 :: x1 :: x2 :: x3 :: x4 :: x5 :: xw :: w9 :: al) (Sum.inr (Sum.inl a) :: st) n h (.lstore 6) = X (pc + 2) (x0 :: x1 :: x2 :: x3 :: x4 :: am_kil x5 :: some (Sum.inr (Sum.inl a)) :: none :: al) st n h := rfl
theorem s_iinc_6 : am_stp m lim call K X Y pc (x0 :: x1 :: x2 :: x3 :: x4 :: x5 :: some (Sum.inl a) :: al) st n h (.iinc 6 b) = X (pc + 3) (x0 :: x1 :: x2 :: x3 :: x4 :: am_kil x5 :: some (Sum.inl (wr (a + b))) :: al) st n h := rfl
theorem s_iload_7 : am_stp m lim call K X Y pc (x0 :: x1 :: x2 :: x3 :: x4 :: x5 :: x6 :: some (Sum.inl a) :: al) st n h (.iload 7) = X (pc + 2) (x0 :: x1 :: x2 :: x3 :: x4 :: x5 :: x6 :: some (Sum.inl a) :: al) (Sum.inl a :: st) n h := rfl
theorem s_aload_7 : am_stp m lim call K X Y pc (x0 :: x1 :: x2 :: x3 :: x4 :: x5 :: x6 :: some (Sum.inr (Sum.inr o)) :: al) st n h (.aload 7) = X (pc + 2) (x0 :: x1 :: x2 :: x3 :: x4 :: x5 :: x6 :: some (Sum.inr (Sum.inr o)) :: al) (Sum.inr (Sum.inr o) :: st) n h := rfl
theorem s_lload_7 : am_stp m lim call K X Y pc (x0 :: x1 :: x2 :: x3 :: x4 :: x5 :: x6 :: some (Sum.inr (Sum.inl a)) :: al) st n h (.lload 7) = X (pc + 2) (x0 :: x1 :: x2 :: x3 :: x4 :: x5 :: x6 :: some (Sum.inr (Sum.inl a)) :: al) (Sum.inr (Sum.inl a) :: st) n h := rfl
theorem s_istore_7 : am_stp m lim call K X Y pc (x0 :: x1 :: x2 :: x3 :: x4 :: x5 :: x6 :: xw :: al) (Sum.inl a :: st) n h (.istore 7) = X (pc + 2) (x0 :: x1 :: x2 :: x3 :: x4 :: x5 :: am_kil x6 :: some (Sum.inl a) :: al) st n h := rfl
theorem s_astore_7 : am_stp m lim call K X Y pc (x0 :: x1 :: x2 :: x3 :: x4 :: x5 :: x6 :: xw :: al) (Sum.inr (Sum.inr o) :: st) n h (.astore 7) = X (pc + 2) (x0 :: x1 :: x2 :: x3 :: x4 :: x5 :: am_kil x6 :: some (Sum.inr (Sum.inr o)) :: al) st n h := rfl
theorem s_lstore_7 {w9 : Option am_V} : am_stp m lim call K X Y pc (x0 :: x1 :: x2 :: x3 :: x4 :: x5 :: x6 :: xw :: w9 :: al) (Sum.inr (Sum.inl a) :: st) n h (.lstore 7) = X (pc + 2) (x0 :: x1 :: x2 :: x3 :: x4 :: x5 :: am_kil x6 :: some (Sum.inr (Sum.inl a)) :: none :: al) st n h := rfl
theorem s_iinc_7 : am_stp m lim call K X Y pc (x0 :: x1 :: x2 :: x3 :: x4 :: x5 :: x6 :: some (Sum.inl a) :: al) st n h (.iinc 7 b) = X (pc + 3) (x0 :: x1 :: x2 :: x3 :: x4 :: x5 :: am_kil x6 :: some (Sum.inl (wr (a + b))) :: al) st n h := rfl
theorem s_iload_8 : am_stp m lim call K X Y pc (x0 :: x1 :: x2 :: x3 :: x4 :: x5 :: x6 :: x7 :: some (Sum.inl a) :: al) st n h (.iload 8) = X (pc + 2) (x0 :: x1 :: x2 :: x3 :: x4 :: x5 :: x6 :: x7 :: some (Sum.inl a) :: al) (Sum.inl a :: st) n h := rfl
theorem s_aload_8 : am_stp m lim call K X Y pc (x0 :: x1 :: x2 :: x3 :: x4 :: x5 :: x6 :: x7 :: some (Sum.inr (Sum.inr o)) :: al) st n h (.aload 8) = X (pc + 2) (x0 :: x1 :: x2 :: x3 :: x4 :: x5 :: x6 :: x7 :: some (Sum.inr (Sum.inr o)) :: al) (Sum.inr (Sum.inr o) :: st) n h := rfl
theorem s_lload_8 : am_stp m lim call K X Y pc (x0 :: x1 :: x2 :: x3 :: x4 :: x5 :: x6 :: x7 :: some (Sum.inr (Sum.inl a)) :: al) st n h (.lload 8) = X (pc + 2) (x0 :: x1 :: x2 :: x3 :: x4 :: x5 :: x6 :: x7 :: some (Sum.inr (Sum.inl a)) :: al) (Sum.inr (Sum.inl a) :: st) n h := rfl
theorem s_istore_8 : am_stp m lim call K X Y pc (x0 :: x1 :: x2 :: x3 :: x4 :: x5 :: x6 :: x7 :: xw :: al) (Sum.inl a :: st) n h (.istore 8) = X (pc + 2) (x0 :: x1 :: x2 :: x3 :: x4 :: x5 :: x6 :: am_kil x7 :: some (Sum.inl a) :: al) st n h := rfl
theorem s_astore_8 : am_stp m lim call K X Y pc (x0 :: x1 :: x2 :: x3 :: x4 :: x5 :: x6 :: x7 :: xw :: al) (Sum.inr (Sum.inr o) :: st) n h (.astore 8) = X (pc + 2) (x0 :: x1 :: x2 :: x3 :: x4 :: x5 :: x6 :: am_kil x7 :: some (Sum.inr (Sum.inr o)) :: al) st n h := rfl
theorem s_lstore_8 {w9 : Option am_V} : am_stp m lim call K X Y pc (x0 :: x1 :: x2 :: x3 :: x4 :: x5 :: x6 :: x7 :: xw :: w9 :: al) (Sum.inr (Sum.inl a) :: st) n h (.lstore 8) = X (pc + 2) (x0 :: x1 :: x2 :: x3 :: x4 :: x5 :: x6 :: am_kil x7 :: some (Sum.inr (Sum.inl a)) :: none :: al) st n h := rfl
theorem s_iinc_8 : am_stp m lim call K X Y pc (x0 :: x1 :: x2 :: x3 :: x4 :: x5 :: x6 :: x7 :: some (Sum.inl a) :: al) st n h (.iinc 8 b) = X (pc + 3) (x0 :: x1 :: x2 :: x3 :: x4 :: x5 :: x6 :: am_kil x7 :: some (Sum.inl (wr (a + b))) :: al) st n h := rfl
theorem s_iload_9 : am_stp m lim call K X Y pc (x0 :: x1 :: x2 :: x3 :: x4 :: x5 :: x6 :: x7 :: x8 :: some (Sum.inl a) :: al) st n h (.iload 9) = X (pc + 2) (x0 :: x1 :: x2 :: x3 :: x4 :: x5 :: x6 :: x7 :: x8 :: some (Sum.inl a) :: al) (Sum.inl a :: st) n h := rfl
theorem s_aload_9 : am_stp m lim call K X Y pc (x0 :: x1 :: x2 :: x3 :: x4 :: x5 :: x6 :: x7 :: x8 :: some (Sum.inr (Sum.inr o)) :: al) st n h (.aload 9) = X (pc + 2) (x0 :: x1 :: x2 :: x3 :: x4 :: x5 :: x6 :: x7 :: x8 :: some (Sum.inr (Sum.inr o)) :: al) (Sum.inr (Sum.inr o) :: st) n h := rfl
theorem s_lload_9 : am_stp m lim call K X Y pc (x0 :: x1 :: x2 :: x3 :: x4 :: x5 :: x6 :: x7 :: x8 :: some (Sum.inr (Sum.inl a)) :: al) st n h (.lload 9) = X (pc + 2) (x0 :: x1 :: x2 :: x3 :: x4 :: x5 :: x6 :: x7 :: x8 :: some (Sum.inr (Sum.inl a)) :: al) (Sum.inr (Sum.inl a) :: st) n h := rfl
theorem s_istore_9 : am_stp m lim call K X Y pc (x0 :: x1 :: x2 :: x3 :: x4 :: x5 :: x6 :: x7 :: x8 :: xw :: al) (Sum.inl a :: st) n h (.istore 9) = X (pc + 2) (x0 :: x1 :: x2 :: x3 :: x4 :: x5 :: x6 :: x7 :: am_kil x8 :: some (Sum.inl a) :: al) st n h := rfl
theorem s_astore_9 : am_stp m lim call K X Y pc (x0 :: x1 :: x2 :: x3 :: x4 :: x5 :: x6 :: x7 :: x8 :: xw :: al) (Sum.inr (Sum.inr o) :: st) n h (.astore 9) = X (pc + 2) (x0 :: x1 :: x2 :: x3 :: x4 :: x5 :: x6 :: x7 :: am_kil x8 :: some (Sum.inr (Sum.inr o)) :: al) st n h := rfl
theorem s_lstore_9 {w9 : Option am_V} : am_stp m lim call K X Y pc (x0 :: x1 :: x2 :: x3 :: x4 :: x5 :: x6 :: x7 :: x8 :: xw :: w9 :: al) (Sum.inr (Sum.inl a) :: st) n h (.lstore 9) = X (pc + 2) (x0 :: x1 :: x2 :: x3 :: x4 :: x5 :: x6 :: x7 :: am_kil x8 :: some (Sum.inr (Sum.inl a)) :: none :: al) st n h := rfl
theorem s_iinc_9 : am_stp m lim call K X Y pc (x0 :: x1 :: x2 :: x3 :: x4 :: x5 :: x6 :: x7 :: x8 :: some (Sum.inl a) :: al) st n h (.iinc 9 b) = X (pc + 3) (x0 :: x1 :: x2 :: x3 :: x4 :: x5 :: x6 :: x7 :: am_kil x8 :: some (Sum.inl (wr (a + b))) :: al) st n h := rfl
theorem s_iload_10 : am_stp m lim call K X Y pc (x0 :: x1 :: x2 :: x3 :: x4 :: x5 :: x6 :: x7 :: x8 :: x9 :: some (Sum.inl a) :: al) st n h (.iload 10) = X (pc + 2) (x0 :: x1 :: x2 :: x3 :: x4 :: x5 :: x6 :: x7 :: x8 :: x9 :: some (Sum.inl a) :: al) (Sum.inl a :: st) n h := rfl
theorem s_aload_10 : am_stp m lim call K X Y pc (x0 :: x1 :: x2 :: x3 :: x4 :: x5 :: x6 :: x7 :: x8 :: x9 :: some (Sum.inr (Sum.inr o)) :: al) st n h (.aload 10) = X (pc + 2) (x0 :: x1 :: x2 :: x3 :: x4 :: x5 :: x6 :: x7 :: x8 :: x9 :: some (Sum.inr (Sum.inr o)) :: al) (Sum.inr (Sum.inr o) :: st) n h := rfl
theorem s_lload_10 : am_stp m lim call K X Y pc (x0 :: x1 :: x2 :: x3 :: x4 :: x5 :: x6 :: x7 :: x8 :: x9 :: some (Sum.inr (Sum.inl a)) :: al) st n h (.lload 10) = X (pc + 2) (x0 :: x1 :: x2 :: x3 :: x4 :: x5 :: x6 :: x7 :: x8 :: x9 :: some (Sum.inr (Sum.inl a)) :: al) (Sum.inr (Sum.inl a) :: st) n h := rfl
theorem s_istore_10 : am_stp m lim call K X Y pc (x0 :: x1 :: x2 :: x3 :: x4 :: x5 :: x6 :: x7 :: x8 :: x9 :: xw :: al) (Sum.inl a :: st) n h (.istore 10) = X (pc + 2) (x0 :: x1 :: x2 :: x3 :: x4 :: x5 :: x6 :: x7 :: x8 :: am_kil x9 :: some (Sum.inl a) :: al) st n h := rfl
theorem s_astore_10 : am_stp m lim call K X Y pc (x0 :: x1 :: x2 :: x3 :: x4 :: x5 :: x6 :: x7 :: x8 :: x9 :: xw :: al) (Sum.inr (Sum.inr o) :: st) n h (.astore 10) = X (pc + 2) (x0 :: x1 :: x2 :: x3 :: x4 :: x5 :: x6 :: x7 :: x8 :: am_kil x9 :: some (Sum.inr (Sum.inr o)) :: al) st n h := rfl
theorem s_iinc_10 : am_stp m lim call K X Y pc (x0 :: x1 :: x2 :: x3 :: x4 :: x5 :: x6 :: x7 :: x8 :: x9 :: some (Sum.inl a) :: al) st n h (.iinc 10 b) = X (pc + 3) (x0 :: x1 :: x2 :: x3 :: x4 :: x5 :: x6 :: x7 :: x8 :: am_kil x9 :: some (Sum.inl (wr (a + b))) :: al) st n h := rfl
theorem s_iadd : am_stp m lim call K X Y pc al (Sum.inl b :: Sum.inl a :: st) n h .iadd = X (pc + 1) al (Sum.inl (wr (a + b)) :: st) n h := rfl
theorem s_isub : am_stp m lim call K X Y pc al (Sum.inl b :: Sum.inl a :: st) n h .isub = X (pc + 1) al (Sum.inl (wr (a - b)) :: st) n h := rfl
theorem s_imul : am_stp m lim call K X Y pc al (Sum.inl b :: Sum.inl a :: st) n h .imul = X (pc + 1) al (Sum.inl (wr (a * b)) :: st) n h := rfl
theorem s_iand : am_stp m lim call K X Y pc al (Sum.inl b :: Sum.inl a :: st) n h .iand = X (pc + 1) al (Sum.inl (am_and a b) :: st) n h := rfl
theorem s_ior : am_stp m lim call K X Y pc al (Sum.inl b :: Sum.inl a :: st) n h .ior = X (pc + 1) al (Sum.inl (am_or a b) :: st) n h := rfl
theorem s_ixor : am_stp m lim call K X Y pc al (Sum.inl b :: Sum.inl a :: st) n h .ixor = X (pc + 1) al (Sum.inl (am_xor a b) :: st) n h := rfl
theorem s_ishl : am_stp m lim call K X Y pc al (Sum.inl b :: Sum.inl a :: st) n h .ishl = X (pc + 1) al (Sum.inl (am_shl a b) :: st) n h := rfl
theorem s_ishr : am_stp m lim call K X Y pc al (Sum.inl b :: Sum.inl a :: st) n h .ishr = X (pc + 1) al (Sum.inl (am_shr a b) :: st) n h := rfl
theorem s_iushr : am_stp m lim call K X Y pc al (Sum.inl b :: Sum.inl a :: st) n h .iushr = X (pc + 1) al (Sum.inl (am_ush a b) :: st) n h := rfl
theorem s_idiv : am_stp m lim call K X Y pc al (Sum.inl b :: Sum.inl a :: st) n h .idiv = (¬ b = 0 ∧ X (pc + 1) al (Sum.inl (wr (a.tdiv b)) :: st) n h) := rfl
theorem s_irem : am_stp m lim call K X Y pc al (Sum.inl b :: Sum.inl a :: st) n h .irem = (¬ b = 0 ∧ X (pc + 1) al (Sum.inl (a.tmod b) :: st) n h) := rfl
theorem s_ldiv : am_stp m lim call K X Y pc al (Sum.inr (Sum.inl b) :: Sum.inr (Sum.inl a) :: st) n h .ldiv = (¬ b = 0 ∧ X (pc + 1) al (Sum.inr (Sum.inl (wrL (a.tdiv b))) :: st) n h) := rfl
theorem s_lrem : am_stp m lim call K X Y pc al (Sum.inr (Sum.inl b) :: Sum.inr (Sum.inl a) :: st) n h .lrem = (¬ b = 0 ∧ X (pc + 1) al (Sum.inr (Sum.inl (a.tmod b)) :: st) n h) := rfl
theorem s_lcmp : am_stp m lim call K X Y pc al (Sum.inr (Sum.inl b) :: Sum.inr (Sum.inl a) :: st) n h .lcmp = X (pc + 1) al (Sum.inl (am_lc a b) :: st) n h := rfl
theorem s_i2b : am_stp m lim call K X Y pc al (Sum.inl a :: st) n h .i2b = X (pc + 1) al (Sum.inl (am_b8 a) :: st) n h := rfl
theorem s_i2s : am_stp m lim call K X Y pc al (Sum.inl a :: st) n h .i2s = X (pc + 1) al (Sum.inl (am_s16 a) :: st) n h := rfl
theorem s_i2l : am_stp m lim call K X Y pc al (Sum.inl a :: st) n h .i2l = X (pc + 1) al (Sum.inr (Sum.inl a) :: st) n h := rfl
theorem s_goto {off : Int} : am_stp m lim call K X Y pc al st n h (.goto off) = am_jmp (fun q => X q al st n h) pc off := rfl
theorem s_if2_eq {off : Int} : am_stp m lim call K X Y pc al (Sum.inl b :: Sum.inl a :: st) n h (.if_icmp .eq off) = ((a = b → am_jmp (fun q => X q al st n h) pc off) ∧ (¬ a = b → X (pc + 3) al st n h)) := rfl
theorem s_if1_eq {off : Int} : am_stp m lim call K X Y pc al (Sum.inl a :: st) n h (.ifCond .eq off) = ((a = 0 → am_jmp (fun q => X q al st n h) pc off) ∧ (¬ a = 0 → X (pc + 3) al st n h)) := rfl
theorem s_if2_lt {off : Int} : am_stp m lim call K X Y pc al (Sum.inl b :: Sum.inl a :: st) n h (.if_icmp .lt off) = ((a < b → am_jmp (fun q => X q al st n h) pc off) ∧ (¬ a < b → X (pc + 3) al st n h)) := rfl
theorem s_if1_lt {off : Int} : am_stp m lim call K X Y pc al (Sum.inl a :: st) n h (.ifCond .lt off) = ((a < 0 → am_jmp (fun q => X q al st n h) pc off) ∧ (¬ a < 0 → X (pc + 3) al st n h)) := rfl
theorem s_if2_ge {off : Int} : am_stp m lim call K X Y pc al (Sum.inl b :: Sum.inl a :: st) n h (.if_icmp .ge off) = ((b ≤ a → am_jmp (fun q => X q al st n h) pc off) ∧ (¬ b ≤ a → X (pc + 3) al st n h)) := rfl
theorem s_if1_ge {off : Int} : am_stp m lim call K X Y pc al (Sum.inl a :: st) n h (.ifCond .ge off) = ((0 ≤ a → am_jmp (fun q => X q al st n h) pc off) ∧ (¬ 0 ≤ a → X (pc + 3) al st n h)) := rfl
theorem s_if2_gt {off : Int} : am_stp m lim call K X Y pc al (Sum.inl b :: Sum.inl a :: st) n h (.if_icmp .gt off) = ((b < a → am_jmp (fun q => X q al st n h) pc off) ∧ (¬ b < a → X (pc + 3) al st n h)) := rfl
theorem s_if1_gt {off : Int} : am_stp m lim call K X Y pc al (Sum.inl a :: st) n h (.ifCond .gt off) = ((0 < a → am_jmp (fun q => X q al st n h) pc off) ∧ (¬ 0 < a → X (pc + 3) al st n h)) := rfl
theorem s_if2_le {off : Int} : am_stp m lim call K X Y pc al (Sum.inl b :: Sum.inl a :: st) n h (.if_icmp .le off) = ((a ≤ b → am_jmp (fun q => X q al st n h) pc off) ∧ (¬ a ≤ b → X (pc + 3) al st n h)) := rfl
theorem s_if1_le {off : Int} : am_stp m lim call K X Y pc al (Sum.inl a :: st) n h (.ifCond .le off) = ((a ≤ 0 → am_jmp (fun q => X q al st n h) pc off) ∧ (¬ a ≤ 0 → X (pc + 3) al st n h)) := rfl
theorem s_if2_ne {off : Int} : am_stp m lim call K X Y pc al (Sum.inl b :: Sum.inl a :: st) n h (.if_icmp .ne off) = ((¬ a = b → am_jmp (fun q => X q al st n h) pc off) ∧ (a = b → X (pc + 3) al st n h)) := (propext (and_congr Iff.rfl ⟨fun z e => z (fun q => q e), fun z e => z (Decidable.of_not_not e)⟩))
theorem s_if1_ne {off : Int} : am_stp m lim call K X Y pc al (Sum.inl a :: st) n h (.ifCond .ne off) = ((¬ a = 0 → am_jmp (fun q => X q al st n h) pc off) ∧ (a = 0 → X (pc + 3) al st n h)) := (propext (and_congr Iff.rfl ⟨fun z e => z (fun q => q e), fun z e => z (Decidable.of_not_not e)⟩))
theorem s_ifn_n {off : Int} : am_stp m lim call K X Y pc al (Sum.inr (Sum.inr none) :: st) n h (.ifnull off) = am_jmp (fun q => X q al st n h) pc off := rfl
theorem s_ifn_s {off : Int} : am_stp m lim call K X Y pc al (Sum.inr (Sum.inr (some r)) :: st) n h (.ifnull off) = X (pc + 3) al st n h := rfl
theorem s_ifnn_n {off : Int} : am_stp m lim call K X Y pc al (Sum.inr (Sum.inr none) :: st) n h (.ifnonnull off) = X (pc + 3) al st n h := rfl
theorem s_ifnn_s {off : Int} : am_stp m lim call K X Y pc al (Sum.inr (Sum.inr (some r)) :: st) n h (.ifnonnull off) = am_jmp (fun q => X q al st n h) pc off := rfl
theorem s_tsw {d lo hi : Int} {os : Array Int} : am_stp m lim call K X Y pc al (Sum.inl a :: st) n h (.tableswitch d lo hi os) = (hi + 1 = lo + os.toList.length ∧ am_swT a lo os.toList d (fun off => am_jmp (fun q => X q al st n h) pc off)) := rfl
theorem s_lsw {d : Int} {ps : Array (Int × Int)} : am_stp m lim call K X Y pc al (Sum.inl a :: st) n h (.lookupswitch d ps) = (am_srt ps.toList = true ∧ am_swL a ps.toList d (fun off => am_jmp (fun q => X q al st n h) pc off)) := rfl
theorem am_swT_n {d : Int} {J : Int → Prop} : am_swT a b [] d J = J d := rfl
theorem am_swT_c {d x : Int} {os : List Int} {J : Int → Prop} : am_swT a b (x :: os) d J = ((a = b → J x) ∧ (¬ a = b → am_swT a (b + 1) os d J)) := rfl
theorem am_swL_n {d : Int} {J : Int → Prop} : am_swL a [] d J = J d := rfl
theorem am_swL_c {d x : Int} {os : List (Int × Int)} {J : Int → Prop} : am_swL a ((b, x) :: os) d J = ((a = b → J x) ∧ (¬ a = b → am_swL a os d J)) := rfl
theorem s_dup_i : am_stp m lim call K X Y pc al (Sum.inl a :: st) n h .dup = X (pc + 1) al (Sum.inl a :: Sum.inl a :: st) n h := rfl
theorem s_dup_r : am_stp m lim call K X Y pc al (Sum.inr (Sum.inr o) :: st) n h .dup = X (pc + 1) al (Sum.inr (Sum.inr o) :: Sum.inr (Sum.inr o) :: st) n h := rfl
theorem s_dup2 : am_stp m lim call K X Y pc al (Sum.inl a :: Sum.inr (Sum.inr o) :: st) n h .dup2 = X (pc + 1) al (Sum.inl a :: Sum.inr (Sum.inr o) :: Sum.inl a :: Sum.inr (Sum.inr o) :: st) n h := rfl
def am_nth : List am_V → Nat → (am_V → Prop) → Prop
  | [], _, _ => False
  | v :: _, 0, P => P v
  | _ :: l, k + 1, P => am_nth l k P
theorem am_nth_0 {P : am_V → Prop} {l : List am_V} : am_nth (v :: l) 0 P = P v := rfl
theorem am_nth_s {P : am_V → Prop} {l : List am_V} : am_nth (v :: l) (k + 1) P = am_nth l k P := rfl
theorem am_nth_eq {P : am_V → Prop} : ∀ (l : List am_V) (k : Nat), am_nth l k P = (match l[k]? with | some v => P v | none => False)
  | [], _ => rfl
  | _ :: _, 0 => rfl
  | _ :: l, k + 1 => am_nth_eq l k
def am_gfq (f : Option (Nat × Nat)) (c : am_C) (P : am_V → Prop) : Prop := match f, c with
  | some (ci, k), Sum.inl (c', fs) => c' = ci ∧ am_nth fs k P
  | _, _ => False
theorem am_gfq_e {P : am_V → Prop} {fs : List am_V} : am_gfq (some (ci, k)) (Sum.inl (c', fs)) P = (c' = ci ∧ am_nth fs k P) := rfl
theorem s_gf : am_stp m lim call K X Y pc al (Sum.inr (Sum.inr (some r)) :: st) n h (.getfield ix) = am_gfq (am_fl (am_own m) ix) (h r) (fun v => X (pc + 3) al (v :: st) n h) := by
  show am_gf m X pc al (Sum.inr (Sum.inr (some r)) :: st) n h ix = _
  unfold am_gf am_gfq
  cases am_fl (am_own m) ix with
  | none => rfl
  | some q =>
    obtain ⟨ci, k⟩ := q
    dsimp only
    cases h r with
    | inr _ => rfl
    | inl q =>
      obtain ⟨c', fs⟩ := q
      simp only [am_nth_eq]
      cases fs[k]? <;> rfl
def am_pfq (m : Nat) (f : Option (Nat × Nat)) (c : am_C) (v : am_V) (P : am_C → Prop) : Prop := match f, c with
  | some (ci, k), Sum.inl (c', fs) => c' = ci ∧ k < fs.length ∧ ((am_ff ci).getD k true = true → am_ini m = true ∧ am_own m = ci) ∧ am_fit ((am_fk ci).getD k 9) v ∧ P (Sum.inl (c', fs.set k v))
  | _, _ => False
theorem am_pfq_e {P : am_C → Prop} {fs : List am_V} : am_pfq m (some (ci, k)) (Sum.inl (c', fs)) v P = (c' = ci ∧ k < fs.length ∧ ((am_ff ci).getD k true = true → am_ini m = true ∧ am_own m = ci) ∧ am_fit ((am_fk ci).getD k 9) v ∧ P (Sum.inl (c', fs.set k v))) := rfl
theorem s_pf : am_stp m lim call K X Y pc al (v :: Sum.inr (Sum.inr (some r)) :: st) n h (.putfield ix) = am_pfq m (am_fl (am_own m) ix) (h r) v (fun c => X (pc + 3) al st n (am_up h r c)) := by
  show am_pf m X pc al (v :: Sum.inr (Sum.inr (some r)) :: st) n h ix = _
  unfold am_pf am_pfq
  cases am_fl (am_own m) ix with
  | none => rfl
  | some q =>
    obtain ⟨ci, k⟩ := q
    dsimp only
    cases h r with
    | inr _ => rfl
    | inl q => rfl
theorem am_fit_0 : am_fit 0 (Sum.inl a) = True := rfl
theorem am_fit_1 : am_fit 1 (Sum.inl a) = (a = 0 ∨ a = 1) := rfl
theorem am_fit_2 : am_fit 2 (Sum.inr (Sum.inr o)) = True := rfl
def am_iaq (c : am_C) (i : Int) (P : Int → Prop) : Prop := match c with
  | Sum.inr (Sum.inl l) => (0 ≤ i ∧ i < l.length) ∧ P (l.getD i.toNat 0)
  | _ => False
theorem am_iaq_e {l : List Int} {P : Int → Prop} : am_iaq (Sum.inr (Sum.inl l)) a P = ((0 ≤ a ∧ a < l.length) ∧ P (l.getD a.toNat 0)) := rfl
theorem s_iald : am_stp m lim call K X Y pc al (Sum.inl a :: Sum.inr (Sum.inr (some r)) :: st) n h .iaload = am_iaq (h r) a (fun x => X (pc + 1) al (Sum.inl x :: st) n h) := by
  show am_iald X pc al (Sum.inl a :: Sum.inr (Sum.inr (some r)) :: st) n h = _
  unfold am_iald am_iaq
  dsimp only
  rcases h r with q | q | q <;> rfl
def am_iwq (r : Nat) (c : am_C) (i x : Int) (P : am_C → Prop) : Prop := match c with
  | Sum.inr (Sum.inl l) => ¬ r = 0 ∧ (0 ≤ i ∧ i < l.length) ∧ P (Sum.inr (Sum.inl (l.set i.toNat x)))
  | _ => False
theorem am_iwq_e {l : List Int} {P : am_C → Prop} : am_iwq r (Sum.inr (Sum.inl l)) a b P = (¬ r = 0 ∧ (0 ≤ a ∧ a < l.length) ∧ P (Sum.inr (Sum.inl (l.set a.toNat b)))) := rfl
theorem s_iast : am_stp m lim call K X Y pc al (Sum.inl b :: Sum.inl a :: Sum.inr (Sum.inr (some r)) :: st) n h .iastore = am_iwq r (h r) a b (fun c => X (pc + 1) al st n (am_up h r c)) := by
  show am_iast X pc al (Sum.inl b :: Sum.inl a :: Sum.inr (Sum.inr (some r)) :: st) n h = _
  unfold am_iast am_iwq
  dsimp only
  rcases h r with q | q | q <;> rfl
def am_aaq (c : am_C) (i : Int) (P : Option Nat → Prop) : Prop := match c with
  | Sum.inr (Sum.inr (_, l)) => (0 ≤ i ∧ i < l.length) ∧ P (l.getD i.toNat none)
  | _ => False
theorem am_aaq_e {l : List (Option Nat)} {P : Option Nat → Prop} : am_aaq (Sum.inr (Sum.inr (ci, l))) a P = ((0 ≤ a ∧ a < l.length) ∧ P (l.getD a.toNat none)) := rfl
theorem s_aald : am_stp m lim call K X Y pc al (Sum.inl a :: Sum.inr (Sum.inr (some r)) :: st) n h .aaload = am_aaq (h r) a (fun x => X (pc + 1) al (Sum.inr (Sum.inr x) :: st) n h) := by
  show am_aald X pc al (Sum.inl a :: Sum.inr (Sum.inr (some r)) :: st) n h = _
  unfold am_aald am_aaq
  dsimp only
  rcases h r with q | q | q <;> rfl
def am_awq (c d : am_C) (i : Int) (v : Nat) (P : am_C → Prop) : Prop := match c, d with
  | Sum.inr (Sum.inr (ci, l)), Sum.inl (c', _) => c' = ci ∧ (0 ≤ i ∧ i < l.length) ∧ P (Sum.inr (Sum.inr (ci, l.set i.toNat (some v))))
  | _, _ => False
theorem am_awq_e {l : List (Option Nat)} {fs : List am_V} {P : am_C → Prop} : am_awq (Sum.inr (Sum.inr (ci, l))) (Sum.inl (c', fs)) a r P = (c' = ci ∧ (0 ≤ a ∧ a < l.length) ∧ P (Sum.inr (Sum.inr (ci, l.set a.toNat (some r))))) := rfl
theorem s_aast : am_stp m lim call K X Y pc al (Sum.inr (Sum.inr (some q)) :: Sum.inl a :: Sum.inr (Sum.inr (some r)) :: st) n h .aastore = am_awq (h r) (h q) a q (fun c => X (pc + 1) al st n (am_up h r c)) := by
  show am_aast X pc al (Sum.inr (Sum.inr (some q)) :: Sum.inl a :: Sum.inr (Sum.inr (some r)) :: st) n h = _
  unfold am_aast am_awq
  dsimp only
  rcases h r with z | z | z <;> rcases h q with y | y | y <;> rfl
theorem s_alen {l : List Int} (hr : h 0 = Sum.inr (Sum.inl l)) : am_stp m lim call K X Y pc al (Sum.inr (Sum.inr (some 0)) :: st) n h .arraylength = X (pc + 1) al (Sum.inl l.length :: st) n h := by
  show am_alen X pc al (Sum.inr (Sum.inr (some 0)) :: st) n h = _
  unfold am_alen
  simp only [hr, true_and]
def am_nwq (f : Option Nat) (P : Nat → Prop) : Prop := match f with
  | some ci => P ci
  | none => False
theorem am_nwq_e {P : Nat → Prop} : am_nwq (some ci) P = P ci := rfl
theorem s_new : am_stp m lim call K X Y pc al st n h (.new ix) = am_nwq (am_cll (am_own m) ix) (fun ci => n + 1 ≤ lim ∧ X (pc + 3) al (Sum.inr (Sum.inr (some (n + 1))) :: st) (n + 1) (am_up h (n + 1) (Sum.inl (ci, (am_fk ci).map am_dflt)))) := rfl
theorem s_nea : am_stp m lim call K X Y pc al (Sum.inl a :: st) n h (.newarray .int) = ((0 ≤ a ∧ a ≤ 3500) ∧ n + 1 ≤ lim ∧ X (pc + 2) al (Sum.inr (Sum.inr (some (n + 1))) :: st) (n + 1) (am_up h (n + 1) (Sum.inr (Sum.inl (List.replicate a.toNat 0))))) := rfl
theorem s_neq : am_stp m lim call K X Y pc al (Sum.inl a :: st) n h (.anewarray ix) = am_nwq (am_cll (am_own m) ix) (fun ci => (0 ≤ a ∧ a ≤ 3500) ∧ (n + 1 ≤ lim ∧ am_isq ci = true) ∧ X (pc + 3) al (Sum.inr (Sum.inr (some (n + 1))) :: st) (n + 1) (am_up h (n + 1) (Sum.inr (Sum.inr (ci, List.replicate a.toNat none))))) := by
  show am_neq m lim X pc al (Sum.inl a :: st) n h ix = _
  unfold am_neq am_nwq
  cases am_cll (am_own m) ix <;> rfl
def am_cpq (r q : Nat) (c d : am_C) (sp dp k : Int) (P : am_C → Prop) : Prop := match c, d with
  | Sum.inr (Sum.inl l), Sum.inr (Sum.inl g) => (¬ r = 0 ∧ ¬ q = 0) ∧ (0 ≤ sp ∧ 0 ≤ dp ∧ 0 ≤ k ∧ sp + k ≤ l.length ∧ dp + k ≤ g.length) ∧ P (Sum.inr (Sum.inl (am_cpy l g sp.toNat dp.toNat k.toNat)))
  | _, _ => False
theorem am_cpq_e {l g : List Int} {d : Int} {P : am_C → Prop} : am_cpq r q (Sum.inr (Sum.inl l)) (Sum.inr (Sum.inl g)) a b d P = ((¬ r = 0 ∧ ¬ q = 0) ∧ (0 ≤ a ∧ 0 ≤ b ∧ 0 ≤ d ∧ a + d ≤ l.length ∧ b + d ≤ g.length) ∧ P (Sum.inr (Sum.inl (am_cpy l g a.toNat b.toNat d.toNat)))) := rfl
def am_isv (f : Option (Nat × Nat)) (cpy : Prop) (P : Nat → Prop) : Prop := match f with
  | some (5, _) => cpy
  | some (1, q) => P q
  | some (3, q) => P q
  | _ => False
theorem am_isv_1 {A : Prop} : am_isv (some (1, q)) A P = P q := rfl
theorem am_isv_3 {A : Prop} : am_isv (some (3, q)) A P = P q := rfl
theorem am_isv_5 {A : Prop} : am_isv (some (5, q)) A P = A := rfl
theorem s_ivs : am_stp m lim call K X Y pc al st n h (.invokestatic ix) = am_isv (am_ml (am_own m) ix) (am_acp X pc al st n h) (fun q => am_cls lim call Y pc al st n h q) := rfl
theorem s_acp {d : Int} : am_acp X pc al (Sum.inl d :: Sum.inl b :: Sum.inr (Sum.inr (some q)) :: Sum.inl a :: Sum.inr (Sum.inr (some r)) :: st) n h = am_cpq r q (h r) (h q) a b d (fun c => st.length ≤ 4 ∧ X (pc + 3) al st n (am_up h q c)) := by
  unfold am_acp am_cpq
  dsimp only
  rcases h r with z | z | z <;> rcases h q with y | y | y <;> first | rfl | skip
def am_ivq (f : Option (Nat × Nat)) (P : Nat → Prop) : Prop := match f with
  | some (0, q) => P q
  | _ => False
theorem am_ivq_e : am_ivq (some (0, q)) P = P q := rfl
theorem s_ivv : am_stp m lim call K X Y pc al st n h (.invokevirtual ix) = am_ivq (am_ml (am_own m) ix) (fun q => am_clv lim call Y pc al st n h q) := rfl
def am_isp (f : Option (Nat × Nat)) (A : Prop) (P : Nat → Prop) : Prop := match f with
  | some (6, _) => A
  | some (2, q) => P q
  | some (4, q) => P q
  | _ => False
theorem am_isp_6 {A : Prop} : am_isp (some (6, q)) A P = A := rfl
theorem am_isp_2 {A : Prop} : am_isp (some (2, q)) A P = P q := rfl
theorem am_isp_4 {A : Prop} : am_isp (some (4, q)) A P = P q := rfl
theorem s_ivi : am_stp m lim call K X Y pc al st n h (.invokespecial ix) = am_isp (am_ml (am_own m) ix) (am_obi X pc al st n h) (fun q => am_cli lim call Y pc al st n h q) := rfl
theorem s_obi : am_obi X pc al (Sum.inr (Sum.inr (some r)) :: st) n h = (st.length ≤ 4 ∧ X (pc + 3) al st n h) := rfl
def am_cvq (c : am_C) (own : Nat) (A : Prop) : Prop := match c with
  | Sum.inl (c', _) => c' = own ∧ A
  | _ => False
theorem am_cvq_e {fs : List am_V} {A : Prop} : am_cvq (Sum.inl (c', fs)) q A = (c' = q ∧ A) := rfl
theorem am_sl_n : am_sl [] = [] := rfl
theorem am_sl_i : am_sl (Sum.inl a :: rest) = some (Sum.inl a) :: am_sl rest := rfl
theorem am_sl_r : am_sl (Sum.inr (Sum.inr o) :: rest) = some (Sum.inr (Sum.inr o)) :: am_sl rest := rfl
theorem am_sl_l : am_sl (Sum.inr (Sum.inl a) :: rest) = some (Sum.inr (Sum.inl a)) :: none :: am_sl rest := rfl
def am_irq (rt lim : Nat) (K : am_K) (n : Nat) (h : am_H) (x : Int) : Prop := match rt with
  | 1 => (x = 0 ∨ x = 1) ∧ n = lim ∧ K (some (Sum.inl x)) n h
  | 2 => n = lim ∧ K (some (Sum.inl x)) n h
  | _ => False
theorem am_irq_1 : am_irq 1 lim K n h a = ((a = 0 ∨ a = 1) ∧ n = lim ∧ K (some (Sum.inl a)) n h) := rfl
theorem am_irq_2 : am_irq 2 lim K n h a = (n = lim ∧ K (some (Sum.inl a)) n h) := rfl
theorem s_irt : am_stp m lim call K X Y pc al [Sum.inl a] n h .ireturn = am_irq (am_rt m) lim K n h a := rfl
def am_orq (rt want lim : Nat) (K : am_K) (n : Nat) (h : am_H) (v : Option am_V) : Prop := if rt = want then n = lim ∧ K v n h else False
theorem am_orq_e {o' : Option am_V} : am_orq k k lim K n h o' = (n = lim ∧ K o' n h) := if_pos rfl
theorem s_lrt : am_stp m lim call K X Y pc al [Sum.inr (Sum.inl a)] n h .lreturn = am_orq (am_rt m) 3 lim K n h (some (Sum.inr (Sum.inl a))) := by
  show am_lrt m lim K [Sum.inr (Sum.inl a)] n h = _
  unfold am_lrt am_orq
  simp only
  split
  · next e => rw [if_pos e]
  · next e => rw [if_neg (fun z => e z)]
theorem s_art : am_stp m lim call K X Y pc al [Sum.inr (Sum.inr o)] n h .areturn = am_orq (am_rt m) 4 lim K n h (some (Sum.inr (Sum.inr o))) := by
  show am_art m lim K [Sum.inr (Sum.inr o)] n h = _
  unfold am_art am_orq
  simp only
  split
  · next e => rw [if_pos e]
  · next e => rw [if_neg (fun z => e z)]
theorem s_vrt : am_stp m lim call K X Y pc al [] n h .return_ = am_orq (am_rt m) 0 lim K n h none := by
  show am_vrt m lim K [] n h = _
  unfold am_vrt am_orq
  simp only
  split
  · next e => rw [if_pos e]
  · next e => rw [if_neg (fun z => e z)]
theorem s_ldc : am_stp m lim call K X Y pc al st n h (.ldc_w ix) = am_ldc X pc al st n h (am_ci (am_own m) ix) := rfl
theorem am_ldc_e : am_ldc X pc al st n h (some a) = X (pc + 3) al (Sum.inl (wr a) :: st) n h := rfl
theorem s_ldc2 : am_stp m lim call K X Y pc al st n h (.ldc2_w ix) = am_ldc2 X pc al st n h (am_cg (am_own m) ix) := rfl
theorem am_ldc2_e : am_ldc2 X pc al st n h (some a) = X (pc + 3) al (Sum.inr (Sum.inl (wrL a)) :: st) n h := rfl
theorem cq_0 : am_cli lim call Y pc al (Sum.inr (Sum.inr (some r)) :: st) n h 0 = ((st.length ≤ 4 ∧ (am_sl [Sum.inr (Sum.inr (some r))]).length ≤ 1) ∧ n + 2 ≤ lim ∧ call 0 [Sum.inr (Sum.inr (some r))] n h (fun v n' h' => Y (pc + 3) al (am_po v st) n' h')) := rfl
theorem cq_1 : am_clv lim call Y pc al (Sum.inr (Sum.inr (some r)) :: st) n h 1 = am_cvq (h r) 0 ((st.length ≤ 4 ∧ (am_sl [Sum.inr (Sum.inr (some r))]).length ≤ 1) ∧ n + 0 ≤ lim ∧ call 1 [Sum.inr (Sum.inr (some r))] n h (fun v n' h' => Y (pc + 3) al (am_po v st) n' h')) := by
  show (match h r with | Sum.inl (c', _) => _ | _ => False) = _
  rcases h r with z | z <;> rfl
theorem cq_2 {y1 : am_V} : am_clv lim call Y pc al (y1 :: Sum.inr (Sum.inr (some r)) :: st) n h 2 = am_cvq (h r) 0 ((st.length ≤ 4 ∧ (am_sl [Sum.inr (Sum.inr (some r)), y1]).length ≤ 2) ∧ n + 0 ≤ lim ∧ call 2 [Sum.inr (Sum.inr (some r)), y1] n h (fun v n' h' => Y (pc + 3) al (am_po v st) n' h')) := by
  show (match h r with | Sum.inl (c', _) => _ | _ => False) = _
  rcases h r with z | z <;> rfl
theorem cq_3 : am_cli lim call Y pc al (Sum.inr (Sum.inr (some r)) :: st) n h 3 = ((st.length ≤ 4 ∧ (am_sl [Sum.inr (Sum.inr (some r))]).length ≤ 1) ∧ n + 5 ≤ lim ∧ call 3 [Sum.inr (Sum.inr (some r))] n h (fun v n' h' => Y (pc + 3) al (am_po v st) n' h')) := rfl
theorem cq_4 {y1 y2 : am_V} : am_clv lim call Y pc al (y2 :: y1 :: Sum.inr (Sum.inr (some r)) :: st) n h 4 = am_cvq (h r) 1 ((st.length ≤ 4 ∧ (am_sl [Sum.inr (Sum.inr (some r)), y1, y2]).length ≤ 4) ∧ n + 0 ≤ lim ∧ call 4 [Sum.inr (Sum.inr (some r)), y1, y2] n h (fun v n' h' => Y (pc + 3) al (am_po v st) n' h')) := by
  show (match h r with | Sum.inl (c', _) => _ | _ => False) = _
  rcases h r with z | z <;> rfl
theorem cq_5 {y1 : am_V} : am_clv lim call Y pc al (y1 :: Sum.inr (Sum.inr (some r)) :: st) n h 5 = am_cvq (h r) 1 ((st.length ≤ 4 ∧ (am_sl [Sum.inr (Sum.inr (some r)), y1]).length ≤ 2) ∧ n + 0 ≤ lim ∧ call 5 [Sum.inr (Sum.inr (some r)), y1] n h (fun v n' h' => Y (pc + 3) al (am_po v st) n' h')) := by
  show (match h r with | Sum.inl (c', _) => _ | _ => False) = _
  rcases h r with z | z <;> rfl
theorem cq_6 {y1 y2 : am_V} : am_clv lim call Y pc al (y2 :: y1 :: Sum.inr (Sum.inr (some r)) :: st) n h 6 = am_cvq (h r) 1 ((st.length ≤ 4 ∧ (am_sl [Sum.inr (Sum.inr (some r)), y1, y2]).length ≤ 4) ∧ n + 0 ≤ lim ∧ call 6 [Sum.inr (Sum.inr (some r)), y1, y2] n h (fun v n' h' => Y (pc + 3) al (am_po v st) n' h')) := by
  show (match h r with | Sum.inl (c', _) => _ | _ => False) = _
  rcases h r with z | z <;> rfl
theorem cq_7 {y1 y2 y3 : am_V} : am_clv lim call Y pc al (y3 :: y2 :: y1 :: Sum.inr (Sum.inr (some r)) :: st) n h 7 = am_cvq (h r) 1 ((st.length ≤ 4 ∧ (am_sl [Sum.inr (Sum.inr (some r)), y1, y2, y3]).length ≤ 7) ∧ n + 0 ≤ lim ∧ call 7 [Sum.inr (Sum.inr (some r)), y1, y2, y3] n h (fun v n' h' => Y (pc + 3) al (am_po v st) n' h')) := by
  show (match h r with | Sum.inl (c', _) => _ | _ => False) = _
  rcases h r with z | z <;> rfl
theorem cq_8 {y1 y2 y3 : am_V} : am_clv lim call Y pc al (y3 :: y2 :: y1 :: Sum.inr (Sum.inr (some r)) :: st) n h 8 = am_cvq (h r) 1 ((st.length ≤ 4 ∧ (am_sl [Sum.inr (Sum.inr (some r)), y1, y2, y3]).length ≤ 11) ∧ n + 0 ≤ lim ∧ call 8 [Sum.inr (Sum.inr (some r)), y1, y2, y3] n h (fun v n' h' => Y (pc + 3) al (am_po v st) n' h')) := by
  show (match h r with | Sum.inl (c', _) => _ | _ => False) = _
  rcases h r with z | z <;> rfl
theorem cq_9 {y0 y1 y2 : am_V} : am_cls lim call Y pc al (y2 :: y1 :: y0 :: st) n h 9 = ((st.length ≤ 4 ∧ (am_sl [y0, y1, y2]).length ≤ 4) ∧ n + 0 ≤ lim ∧ call 9 [y0, y1, y2] n h (fun v n' h' => Y (pc + 3) al (am_po v st) n' h')) := rfl
theorem cq_10 : am_clv lim call Y pc al (Sum.inr (Sum.inr (some r)) :: st) n h 10 = am_cvq (h r) 1 ((st.length ≤ 4 ∧ (am_sl [Sum.inr (Sum.inr (some r))]).length ≤ 3) ∧ n + 0 ≤ lim ∧ call 10 [Sum.inr (Sum.inr (some r))] n h (fun v n' h' => Y (pc + 3) al (am_po v st) n' h')) := by
  show (match h r with | Sum.inl (c', _) => _ | _ => False) = _
  rcases h r with z | z <;> rfl
theorem cq_11 {y1 : am_V} : am_clv lim call Y pc al (y1 :: Sum.inr (Sum.inr (some r)) :: st) n h 11 = am_cvq (h r) 1 ((st.length ≤ 4 ∧ (am_sl [Sum.inr (Sum.inr (some r)), y1]).length ≤ 4) ∧ n + 0 ≤ lim ∧ call 11 [Sum.inr (Sum.inr (some r)), y1] n h (fun v n' h' => Y (pc + 3) al (am_po v st) n' h')) := by
  show (match h r with | Sum.inl (c', _) => _ | _ => False) = _
  rcases h r with z | z <;> rfl
theorem cq_12 : am_clv lim call Y pc al (Sum.inr (Sum.inr (some r)) :: st) n h 12 = am_cvq (h r) 1 ((st.length ≤ 4 ∧ (am_sl [Sum.inr (Sum.inr (some r))]).length ≤ 3) ∧ n + 0 ≤ lim ∧ call 12 [Sum.inr (Sum.inr (some r))] n h (fun v n' h' => Y (pc + 3) al (am_po v st) n' h')) := by
  show (match h r with | Sum.inl (c', _) => _ | _ => False) = _
  rcases h r with z | z <;> rfl
theorem cq_13 {y1 : am_V} : am_clv lim call Y pc al (y1 :: Sum.inr (Sum.inr (some r)) :: st) n h 13 = am_cvq (h r) 1 ((st.length ≤ 4 ∧ (am_sl [Sum.inr (Sum.inr (some r)), y1]).length ≤ 5) ∧ n + 0 ≤ lim ∧ call 13 [Sum.inr (Sum.inr (some r)), y1] n h (fun v n' h' => Y (pc + 3) al (am_po v st) n' h')) := by
  show (match h r with | Sum.inl (c', _) => _ | _ => False) = _
  rcases h r with z | z <;> rfl
theorem cq_14 {y1 y2 : am_V} : am_clv lim call Y pc al (y2 :: y1 :: Sum.inr (Sum.inr (some r)) :: st) n h 14 = am_cvq (h r) 1 ((st.length ≤ 4 ∧ (am_sl [Sum.inr (Sum.inr (some r)), y1, y2]).length ≤ 5) ∧ n + 0 ≤ lim ∧ call 14 [Sum.inr (Sum.inr (some r)), y1, y2] n h (fun v n' h' => Y (pc + 3) al (am_po v st) n' h')) := by
  show (match h r with | Sum.inl (c', _) => _ | _ => False) = _
  rcases h r with z | z <;> rfl
theorem cq_15 {y0 y1 : am_V} : am_cls lim call Y pc al (y1 :: y0 :: st) n h 15 = ((st.length ≤ 4 ∧ (am_sl [y0, y1]).length ≤ 5) ∧ n + 0 ≤ lim ∧ call 15 [y0, y1] n h (fun v n' h' => Y (pc + 3) al (am_po v st) n' h')) := rfl
theorem cq_16 : am_cli lim call Y pc al (Sum.inr (Sum.inr (some r)) :: st) n h 16 = ((st.length ≤ 4 ∧ (am_sl [Sum.inr (Sum.inr (some r))]).length ≤ 1) ∧ n + 1 ≤ lim ∧ call 16 [Sum.inr (Sum.inr (some r))] n h (fun v n' h' => Y (pc + 3) al (am_po v st) n' h')) := rfl
theorem cq_17 {y1 y2 : am_V} : am_clv lim call Y pc al (y2 :: y1 :: Sum.inr (Sum.inr (some r)) :: st) n h 17 = am_cvq (h r) 2 ((st.length ≤ 4 ∧ (am_sl [Sum.inr (Sum.inr (some r)), y1, y2]).length ≤ 4) ∧ n + 0 ≤ lim ∧ call 17 [Sum.inr (Sum.inr (some r)), y1, y2] n h (fun v n' h' => Y (pc + 3) al (am_po v st) n' h')) := by
  show (match h r with | Sum.inl (c', _) => _ | _ => False) = _
  rcases h r with z | z <;> rfl
theorem cq_18 : am_clv lim call Y pc al (Sum.inr (Sum.inr (some r)) :: st) n h 18 = am_cvq (h r) 2 ((st.length ≤ 4 ∧ (am_sl [Sum.inr (Sum.inr (some r))]).length ≤ 2) ∧ n + 0 ≤ lim ∧ call 18 [Sum.inr (Sum.inr (some r))] n h (fun v n' h' => Y (pc + 3) al (am_po v st) n' h')) := by
  show (match h r with | Sum.inl (c', _) => _ | _ => False) = _
  rcases h r with z | z <;> rfl
theorem cq_19 {y1 : am_V} : am_clv lim call Y pc al (y1 :: Sum.inr (Sum.inr (some r)) :: st) n h 19 = am_cvq (h r) 2 ((st.length ≤ 4 ∧ (am_sl [Sum.inr (Sum.inr (some r)), y1]).length ≤ 2) ∧ n + 0 ≤ lim ∧ call 19 [Sum.inr (Sum.inr (some r)), y1] n h (fun v n' h' => Y (pc + 3) al (am_po v st) n' h')) := by
  show (match h r with | Sum.inl (c', _) => _ | _ => False) = _
  rcases h r with z | z <;> rfl
theorem cq_20 {y1 : am_V} : am_clv lim call Y pc al (y1 :: Sum.inr (Sum.inr (some r)) :: st) n h 20 = am_cvq (h r) 2 ((st.length ≤ 4 ∧ (am_sl [Sum.inr (Sum.inr (some r)), y1]).length ≤ 2) ∧ n + 0 ≤ lim ∧ call 20 [Sum.inr (Sum.inr (some r)), y1] n h (fun v n' h' => Y (pc + 3) al (am_po v st) n' h')) := by
  show (match h r with | Sum.inl (c', _) => _ | _ => False) = _
  rcases h r with z | z <;> rfl
theorem cq_21 {y1 y2 : am_V} : am_clv lim call Y pc al (y2 :: y1 :: Sum.inr (Sum.inr (some r)) :: st) n h 21 = am_cvq (h r) 2 ((st.length ≤ 4 ∧ (am_sl [Sum.inr (Sum.inr (some r)), y1, y2]).length ≤ 3) ∧ n + 0 ≤ lim ∧ call 21 [Sum.inr (Sum.inr (some r)), y1, y2] n h (fun v n' h' => Y (pc + 3) al (am_po v st) n' h')) := by
  show (match h r with | Sum.inl (c', _) => _ | _ => False) = _
  rcases h r with z | z <;> rfl
theorem cq_22 {y1 : am_V} : am_clv lim call Y pc al (y1 :: Sum.inr (Sum.inr (some r)) :: st) n h 22 = am_cvq (h r) 2 ((st.length ≤ 4 ∧ (am_sl [Sum.inr (Sum.inr (some r)), y1]).length ≤ 2) ∧ n + 0 ≤ lim ∧ call 22 [Sum.inr (Sum.inr (some r)), y1] n h (fun v n' h' => Y (pc + 3) al (am_po v st) n' h')) := by
  show (match h r with | Sum.inl (c', _) => _ | _ => False) = _
  rcases h r with z | z <;> rfl
theorem cq_23 {y0 y1 : am_V} : am_cls lim call Y pc al (y1 :: y0 :: st) n h 23 = ((st.length ≤ 4 ∧ (am_sl [y0, y1]).length ≤ 2) ∧ n + 0 ≤ lim ∧ call 23 [y0, y1] n h (fun v n' h' => Y (pc + 3) al (am_po v st) n' h')) := rfl
theorem cq_24 {y0 y1 y2 : am_V} : am_cls lim call Y pc al (y2 :: y1 :: y0 :: st) n h 24 = ((st.length ≤ 4 ∧ (am_sl [y0, y1, y2]).length ≤ 3) ∧ n + 0 ≤ lim ∧ call 24 [y0, y1, y2] n h (fun v n' h' => Y (pc + 3) al (am_po v st) n' h')) := rfl
theorem cq_25 {y0 : am_V} : am_cls lim call Y pc al (y0 :: st) n h 25 = ((st.length ≤ 4 ∧ (am_sl [y0]).length ≤ 1) ∧ n + 0 ≤ lim ∧ call 25 [y0] n h (fun v n' h' => Y (pc + 3) al (am_po v st) n' h')) := rfl
theorem cq_26 {y0 : am_V} : am_cls lim call Y pc al (y0 :: st) n h 26 = ((st.length ≤ 4 ∧ (am_sl [y0]).length ≤ 1) ∧ n + 0 ≤ lim ∧ call 26 [y0] n h (fun v n' h' => Y (pc + 3) al (am_po v st) n' h')) := rfl
theorem cq_27 {y0 y1 y2 : am_V} : am_cls lim call Y pc al (y2 :: y1 :: y0 :: st) n h 27 = ((st.length ≤ 4 ∧ (am_sl [y0, y1, y2]).length ≤ 3) ∧ n + 0 ≤ lim ∧ call 27 [y0, y1, y2] n h (fun v n' h' => Y (pc + 3) al (am_po v st) n' h')) := rfl
theorem cq_28 : am_cli lim call Y pc al (Sum.inr (Sum.inr (some r)) :: st) n h 28 = ((st.length ≤ 4 ∧ (am_sl [Sum.inr (Sum.inr (some r))]).length ≤ 1) ∧ n + 0 ≤ lim ∧ call 28 [Sum.inr (Sum.inr (some r))] n h (fun v n' h' => Y (pc + 3) al (am_po v st) n' h')) := rfl
theorem cq_29 {y1 y2 y3 y4 : am_V} : am_clv lim call Y pc al (y4 :: y3 :: y2 :: y1 :: Sum.inr (Sum.inr (some r)) :: st) n h 29 = am_cvq (h r) 3 ((st.length ≤ 4 ∧ (am_sl [Sum.inr (Sum.inr (some r)), y1, y2, y3, y4]).length ≤ 5) ∧ n + 0 ≤ lim ∧ call 29 [Sum.inr (Sum.inr (some r)), y1, y2, y3, y4] n h (fun v n' h' => Y (pc + 3) al (am_po v st) n' h')) := by
  show (match h r with | Sum.inl (c', _) => _ | _ => False) = _
  rcases h r with z | z <;> rfl
theorem cq_30 : am_cli lim call Y pc al (Sum.inr (Sum.inr (some r)) :: st) n h 30 = ((st.length ≤ 4 ∧ (am_sl [Sum.inr (Sum.inr (some r))]).length ≤ 1) ∧ n + 0 ≤ lim ∧ call 30 [Sum.inr (Sum.inr (some r))] n h (fun v n' h' => Y (pc + 3) al (am_po v st) n' h')) := rfl
theorem cq_31 {y1 y2 y3 y4 : am_V} : am_clv lim call Y pc al (y4 :: y3 :: y2 :: y1 :: Sum.inr (Sum.inr (some r)) :: st) n h 31 = am_cvq (h r) 4 ((st.length ≤ 4 ∧ (am_sl [Sum.inr (Sum.inr (some r)), y1, y2, y3, y4]).length ≤ 6) ∧ n + 0 ≤ lim ∧ call 31 [Sum.inr (Sum.inr (some r)), y1, y2, y3, y4] n h (fun v n' h' => Y (pc + 3) al (am_po v st) n' h')) := by
  show (match h r with | Sum.inl (c', _) => _ | _ => False) = _
  rcases h r with z | z <;> rfl
theorem cq_32 {y1 : am_V} : am_clv lim call Y pc al (y1 :: Sum.inr (Sum.inr (some r)) :: st) n h 32 = am_cvq (h r) 4 ((st.length ≤ 4 ∧ (am_sl [Sum.inr (Sum.inr (some r)), y1]).length ≤ 6) ∧ n + 0 ≤ lim ∧ call 32 [Sum.inr (Sum.inr (some r)), y1] n h (fun v n' h' => Y (pc + 3) al (am_po v st) n' h')) := by
  show (match h r with | Sum.inl (c', _) => _ | _ => False) = _
  rcases h r with z | z <;> rfl
theorem cq_33 : am_clv lim call Y pc al (Sum.inr (Sum.inr (some r)) :: st) n h 33 = am_cvq (h r) 4 ((st.length ≤ 4 ∧ (am_sl [Sum.inr (Sum.inr (some r))]).length ≤ 1) ∧ n + 0 ≤ lim ∧ call 33 [Sum.inr (Sum.inr (some r))] n h (fun v n' h' => Y (pc + 3) al (am_po v st) n' h')) := by
  show (match h r with | Sum.inl (c', _) => _ | _ => False) = _
  rcases h r with z | z <;> rfl
theorem cq_34 {y1 y2 : am_V} : am_clv lim call Y pc al (y2 :: y1 :: Sum.inr (Sum.inr (some r)) :: st) n h 34 = am_cvq (h r) 4 ((st.length ≤ 4 ∧ (am_sl [Sum.inr (Sum.inr (some r)), y1, y2]).length ≤ 4) ∧ n + 0 ≤ lim ∧ call 34 [Sum.inr (Sum.inr (some r)), y1, y2] n h (fun v n' h' => Y (pc + 3) al (am_po v st) n' h')) := by
  show (match h r with | Sum.inl (c', _) => _ | _ => False) = _
  rcases h r with z | z <;> rfl
theorem cq_35 : am_clv lim call Y pc al (Sum.inr (Sum.inr (some r)) :: st) n h 35 = am_cvq (h r) 4 ((st.length ≤ 4 ∧ (am_sl [Sum.inr (Sum.inr (some r))]).length ≤ 3) ∧ n + 0 ≤ lim ∧ call 35 [Sum.inr (Sum.inr (some r))] n h (fun v n' h' => Y (pc + 3) al (am_po v st) n' h')) := by
  show (match h r with | Sum.inl (c', _) => _ | _ => False) = _
  rcases h r with z | z <;> rfl
theorem cq_36 {y1 y2 : am_V} : am_clv lim call Y pc al (y2 :: y1 :: Sum.inr (Sum.inr (some r)) :: st) n h 36 = am_cvq (h r) 4 ((st.length ≤ 4 ∧ (am_sl [Sum.inr (Sum.inr (some r)), y1, y2]).length ≤ 5) ∧ n + 0 ≤ lim ∧ call 36 [Sum.inr (Sum.inr (some r)), y1, y2] n h (fun v n' h' => Y (pc + 3) al (am_po v st) n' h')) := by
  show (match h r with | Sum.inl (c', _) => _ | _ => False) = _
  rcases h r with z | z <;> rfl
theorem cq_37 : am_clv lim call Y pc al (Sum.inr (Sum.inr (some r)) :: st) n h 37 = am_cvq (h r) 4 ((st.length ≤ 4 ∧ (am_sl [Sum.inr (Sum.inr (some r))]).length ≤ 1) ∧ n + 0 ≤ lim ∧ call 37 [Sum.inr (Sum.inr (some r))] n h (fun v n' h' => Y (pc + 3) al (am_po v st) n' h')) := by
  show (match h r with | Sum.inl (c', _) => _ | _ => False) = _
  rcases h r with z | z <;> rfl
theorem cq_38 {y1 y2 : am_V} : am_clv lim call Y pc al (y2 :: y1 :: Sum.inr (Sum.inr (some r)) :: st) n h 38 = am_cvq (h r) 4 ((st.length ≤ 4 ∧ (am_sl [Sum.inr (Sum.inr (some r)), y1, y2]).length ≤ 4) ∧ n + 0 ≤ lim ∧ call 38 [Sum.inr (Sum.inr (some r)), y1, y2] n h (fun v n' h' => Y (pc + 3) al (am_po v st) n' h')) := by
  show (match h r with | Sum.inl (c', _) => _ | _ => False) = _
  rcases h r with z | z <;> rfl
theorem cq_39 {y1 : am_V} : am_clv lim call Y pc al (y1 :: Sum.inr (Sum.inr (some r)) :: st) n h 39 = am_cvq (h r) 4 ((st.length ≤ 4 ∧ (am_sl [Sum.inr (Sum.inr (some r)), y1]).length ≤ 3) ∧ n + 0 ≤ lim ∧ call 39 [Sum.inr (Sum.inr (some r)), y1] n h (fun v n' h' => Y (pc + 3) al (am_po v st) n' h')) := by
  show (match h r with | Sum.inl (c', _) => _ | _ => False) = _
  rcases h r with z | z <;> rfl
theorem cq_40 : am_cli lim call Y pc al (Sum.inr (Sum.inr (some r)) :: st) n h 40 = ((st.length ≤ 4 ∧ (am_sl [Sum.inr (Sum.inr (some r))]).length ≤ 2) ∧ n + 18 ≤ lim ∧ call 40 [Sum.inr (Sum.inr (some r))] n h (fun v n' h' => Y (pc + 3) al (am_po v st) n' h')) := rfl
theorem cq_41 : am_clv lim call Y pc al (Sum.inr (Sum.inr (some r)) :: st) n h 41 = am_cvq (h r) 5 ((st.length ≤ 4 ∧ (am_sl [Sum.inr (Sum.inr (some r))]).length ≤ 2) ∧ n + 0 ≤ lim ∧ call 41 [Sum.inr (Sum.inr (some r))] n h (fun v n' h' => Y (pc + 3) al (am_po v st) n' h')) := by
  show (match h r with | Sum.inl (c', _) => _ | _ => False) = _
  rcases h r with z | z <;> rfl
theorem cq_42 {y1 : am_V} : am_clv lim call Y pc al (y1 :: Sum.inr (Sum.inr (some r)) :: st) n h 42 = am_cvq (h r) 5 ((st.length ≤ 4 ∧ (am_sl [Sum.inr (Sum.inr (some r)), y1]).length ≤ 4) ∧ n + 0 ≤ lim ∧ call 42 [Sum.inr (Sum.inr (some r)), y1] n h (fun v n' h' => Y (pc + 3) al (am_po v st) n' h')) := by
  show (match h r with | Sum.inl (c', _) => _ | _ => False) = _
  rcases h r with z | z <;> rfl
theorem cq_43 {y1 : am_V} : am_clv lim call Y pc al (y1 :: Sum.inr (Sum.inr (some r)) :: st) n h 43 = am_cvq (h r) 5 ((st.length ≤ 4 ∧ (am_sl [Sum.inr (Sum.inr (some r)), y1]).length ≤ 2) ∧ n + 0 ≤ lim ∧ call 43 [Sum.inr (Sum.inr (some r)), y1] n h (fun v n' h' => Y (pc + 3) al (am_po v st) n' h')) := by
  show (match h r with | Sum.inl (c', _) => _ | _ => False) = _
  rcases h r with z | z <;> rfl
theorem cq_44 {y1 : am_V} : am_clv lim call Y pc al (y1 :: Sum.inr (Sum.inr (some r)) :: st) n h 44 = am_cvq (h r) 5 ((st.length ≤ 4 ∧ (am_sl [Sum.inr (Sum.inr (some r)), y1]).length ≤ 2) ∧ n + 0 ≤ lim ∧ call 44 [Sum.inr (Sum.inr (some r)), y1] n h (fun v n' h' => Y (pc + 3) al (am_po v st) n' h')) := by
  show (match h r with | Sum.inl (c', _) => _ | _ => False) = _
  rcases h r with z | z <;> rfl
theorem cq_45 {y1 y2 y3 y4 : am_V} : am_clv lim call Y pc al (y4 :: y3 :: y2 :: y1 :: Sum.inr (Sum.inr (some r)) :: st) n h 45 = am_cvq (h r) 5 ((st.length ≤ 4 ∧ (am_sl [Sum.inr (Sum.inr (some r)), y1, y2, y3, y4]).length ≤ 5) ∧ n + 0 ≤ lim ∧ call 45 [Sum.inr (Sum.inr (some r)), y1, y2, y3, y4] n h (fun v n' h' => Y (pc + 3) al (am_po v st) n' h')) := by
  show (match h r with | Sum.inl (c', _) => _ | _ => False) = _
  rcases h r with z | z <;> rfl
theorem cq_46 : am_clv lim call Y pc al (Sum.inr (Sum.inr (some r)) :: st) n h 46 = am_cvq (h r) 5 ((st.length ≤ 4 ∧ (am_sl [Sum.inr (Sum.inr (some r))]).length ≤ 1) ∧ n + 0 ≤ lim ∧ call 46 [Sum.inr (Sum.inr (some r))] n h (fun v n' h' => Y (pc + 3) al (am_po v st) n' h')) := by
  show (match h r with | Sum.inl (c', _) => _ | _ => False) = _
  rcases h r with z | z <;> rfl
theorem cq_47 {y1 y2 : am_V} : am_clv lim call Y pc al (y2 :: y1 :: Sum.inr (Sum.inr (some r)) :: st) n h 47 = am_cvq (h r) 5 ((st.length ≤ 4 ∧ (am_sl [Sum.inr (Sum.inr (some r)), y1, y2]).length ≤ 4) ∧ n + 0 ≤ lim ∧ call 47 [Sum.inr (Sum.inr (some r)), y1, y2] n h (fun v n' h' => Y (pc + 3) al (am_po v st) n' h')) := by
  show (match h r with | Sum.inl (c', _) => _ | _ => False) = _
  rcases h r with z | z <;> rfl
theorem cq_48 : am_clv lim call Y pc al (Sum.inr (Sum.inr (some r)) :: st) n h 48 = am_cvq (h r) 5 ((st.length ≤ 4 ∧ (am_sl [Sum.inr (Sum.inr (some r))]).length ≤ 3) ∧ n + 0 ≤ lim ∧ call 48 [Sum.inr (Sum.inr (some r))] n h (fun v n' h' => Y (pc + 3) al (am_po v st) n' h')) := by
  show (match h r with | Sum.inl (c', _) => _ | _ => False) = _
  rcases h r with z | z <;> rfl
theorem cq_49 : am_clv lim call Y pc al (Sum.inr (Sum.inr (some r)) :: st) n h 49 = am_cvq (h r) 5 ((st.length ≤ 4 ∧ (am_sl [Sum.inr (Sum.inr (some r))]).length ≤ 3) ∧ n + 0 ≤ lim ∧ call 49 [Sum.inr (Sum.inr (some r))] n h (fun v n' h' => Y (pc + 3) al (am_po v st) n' h')) := by
  show (match h r with | Sum.inl (c', _) => _ | _ => False) = _
  rcases h r with z | z <;> rfl
theorem cq_50 {y1 : am_V} : am_clv lim call Y pc al (y1 :: Sum.inr (Sum.inr (some r)) :: st) n h 50 = am_cvq (h r) 5 ((st.length ≤ 4 ∧ (am_sl [Sum.inr (Sum.inr (some r)), y1]).length ≤ 4) ∧ n + 0 ≤ lim ∧ call 50 [Sum.inr (Sum.inr (some r)), y1] n h (fun v n' h' => Y (pc + 3) al (am_po v st) n' h')) := by
  show (match h r with | Sum.inl (c', _) => _ | _ => False) = _
  rcases h r with z | z <;> rfl
theorem cq_51 {y1 : am_V} : am_clv lim call Y pc al (y1 :: Sum.inr (Sum.inr (some r)) :: st) n h 51 = am_cvq (h r) 5 ((st.length ≤ 4 ∧ (am_sl [Sum.inr (Sum.inr (some r)), y1]).length ≤ 5) ∧ n + 0 ≤ lim ∧ call 51 [Sum.inr (Sum.inr (some r)), y1] n h (fun v n' h' => Y (pc + 3) al (am_po v st) n' h')) := by
  show (match h r with | Sum.inl (c', _) => _ | _ => False) = _
  rcases h r with z | z <;> rfl
theorem cq_52 : am_cli lim call Y pc al (Sum.inr (Sum.inr (some r)) :: st) n h 52 = ((st.length ≤ 4 ∧ (am_sl [Sum.inr (Sum.inr (some r))]).length ≤ 2) ∧ n + 56 ≤ lim ∧ call 52 [Sum.inr (Sum.inr (some r))] n h (fun v n' h' => Y (pc + 3) al (am_po v st) n' h')) := rfl
theorem cq_53 {y1 y2 y3 y4 : am_V} : am_clv lim call Y pc al (y4 :: y3 :: y2 :: y1 :: Sum.inr (Sum.inr (some r)) :: st) n h 53 = am_cvq (h r) 6 ((st.length ≤ 4 ∧ (am_sl [Sum.inr (Sum.inr (some r)), y1, y2, y3, y4]).length ≤ 8) ∧ n + 0 ≤ lim ∧ call 53 [Sum.inr (Sum.inr (some r)), y1, y2, y3, y4] n h (fun v n' h' => Y (pc + 3) al (am_po v st) n' h')) := by
  show (match h r with | Sum.inl (c', _) => _ | _ => False) = _
  rcases h r with z | z <;> rfl
theorem cq_54 {y1 y2 : am_V} : am_clv lim call Y pc al (y2 :: y1 :: Sum.inr (Sum.inr (some r)) :: st) n h 54 = am_cvq (h r) 6 ((st.length ≤ 4 ∧ (am_sl [Sum.inr (Sum.inr (some r)), y1, y2]).length ≤ 4) ∧ n + 0 ≤ lim ∧ call 54 [Sum.inr (Sum.inr (some r)), y1, y2] n h (fun v n' h' => Y (pc + 3) al (am_po v st) n' h')) := by
  show (match h r with | Sum.inl (c', _) => _ | _ => False) = _
  rcases h r with z | z <;> rfl
theorem cq_55 {y1 : am_V} : am_clv lim call Y pc al (y1 :: Sum.inr (Sum.inr (some r)) :: st) n h 55 = am_cvq (h r) 6 ((st.length ≤ 4 ∧ (am_sl [Sum.inr (Sum.inr (some r)), y1]).length ≤ 2) ∧ n + 0 ≤ lim ∧ call 55 [Sum.inr (Sum.inr (some r)), y1] n h (fun v n' h' => Y (pc + 3) al (am_po v st) n' h')) := by
  show (match h r with | Sum.inl (c', _) => _ | _ => False) = _
  rcases h r with z | z <;> rfl
theorem cq_56 {y1 : am_V} : am_clv lim call Y pc al (y1 :: Sum.inr (Sum.inr (some r)) :: st) n h 56 = am_cvq (h r) 6 ((st.length ≤ 4 ∧ (am_sl [Sum.inr (Sum.inr (some r)), y1]).length ≤ 2) ∧ n + 0 ≤ lim ∧ call 56 [Sum.inr (Sum.inr (some r)), y1] n h (fun v n' h' => Y (pc + 3) al (am_po v st) n' h')) := by
  show (match h r with | Sum.inl (c', _) => _ | _ => False) = _
  rcases h r with z | z <;> rfl
theorem cq_57 {y1 y2 y3 : am_V} : am_clv lim call Y pc al (y3 :: y2 :: y1 :: Sum.inr (Sum.inr (some r)) :: st) n h 57 = am_cvq (h r) 6 ((st.length ≤ 4 ∧ (am_sl [Sum.inr (Sum.inr (some r)), y1, y2, y3]).length ≤ 4) ∧ n + 0 ≤ lim ∧ call 57 [Sum.inr (Sum.inr (some r)), y1, y2, y3] n h (fun v n' h' => Y (pc + 3) al (am_po v st) n' h')) := by
  show (match h r with | Sum.inl (c', _) => _ | _ => False) = _
  rcases h r with z | z <;> rfl
theorem cq_58 : am_clv lim call Y pc al (Sum.inr (Sum.inr (some r)) :: st) n h 58 = am_cvq (h r) 6 ((st.length ≤ 4 ∧ (am_sl [Sum.inr (Sum.inr (some r))]).length ≤ 1) ∧ n + 0 ≤ lim ∧ call 58 [Sum.inr (Sum.inr (some r))] n h (fun v n' h' => Y (pc + 3) al (am_po v st) n' h')) := by
  show (match h r with | Sum.inl (c', _) => _ | _ => False) = _
  rcases h r with z | z <;> rfl
theorem cq_59 {y1 y2 : am_V} : am_clv lim call Y pc al (y2 :: y1 :: Sum.inr (Sum.inr (some r)) :: st) n h 59 = am_cvq (h r) 6 ((st.length ≤ 4 ∧ (am_sl [Sum.inr (Sum.inr (some r)), y1, y2]).length ≤ 4) ∧ n + 0 ≤ lim ∧ call 59 [Sum.inr (Sum.inr (some r)), y1, y2] n h (fun v n' h' => Y (pc + 3) al (am_po v st) n' h')) := by
  show (match h r with | Sum.inl (c', _) => _ | _ => False) = _
  rcases h r with z | z <;> rfl
theorem cq_60 {y1 y2 : am_V} : am_clv lim call Y pc al (y2 :: y1 :: Sum.inr (Sum.inr (some r)) :: st) n h 60 = am_cvq (h r) 6 ((st.length ≤ 4 ∧ (am_sl [Sum.inr (Sum.inr (some r)), y1, y2]).length ≤ 5) ∧ n + 0 ≤ lim ∧ call 60 [Sum.inr (Sum.inr (some r)), y1, y2] n h (fun v n' h' => Y (pc + 3) al (am_po v st) n' h')) := by
  show (match h r with | Sum.inl (c', _) => _ | _ => False) = _
  rcases h r with z | z <;> rfl
theorem cq_61 {y1 y2 : am_V} : am_clv lim call Y pc al (y2 :: y1 :: Sum.inr (Sum.inr (some r)) :: st) n h 61 = am_cvq (h r) 6 ((st.length ≤ 4 ∧ (am_sl [Sum.inr (Sum.inr (some r)), y1, y2]).length ≤ 4) ∧ n + 0 ≤ lim ∧ call 61 [Sum.inr (Sum.inr (some r)), y1, y2] n h (fun v n' h' => Y (pc + 3) al (am_po v st) n' h')) := by
  show (match h r with | Sum.inl (c', _) => _ | _ => False) = _
  rcases h r with z | z <;> rfl
theorem cq_62 {y1 y2 : am_V} : am_clv lim call Y pc al (y2 :: y1 :: Sum.inr (Sum.inr (some r)) :: st) n h 62 = am_cvq (h r) 6 ((st.length ≤ 4 ∧ (am_sl [Sum.inr (Sum.inr (some r)), y1, y2]).length ≤ 3) ∧ n + 0 ≤ lim ∧ call 62 [Sum.inr (Sum.inr (some r)), y1, y2] n h (fun v n' h' => Y (pc + 3) al (am_po v st) n' h')) := by
  show (match h r with | Sum.inl (c', _) => _ | _ => False) = _
  rcases h r with z | z <;> rfl
theorem cq_63 {y1 y2 : am_V} : am_clv lim call Y pc al (y2 :: y1 :: Sum.inr (Sum.inr (some r)) :: st) n h 63 = am_cvq (h r) 6 ((st.length ≤ 4 ∧ (am_sl [Sum.inr (Sum.inr (some r)), y1, y2]).length ≤ 3) ∧ n + 0 ≤ lim ∧ call 63 [Sum.inr (Sum.inr (some r)), y1, y2] n h (fun v n' h' => Y (pc + 3) al (am_po v st) n' h')) := by
  show (match h r with | Sum.inl (c', _) => _ | _ => False) = _
  rcases h r with z | z <;> rfl
theorem cq_64 {y1 y2 y3 : am_V} : am_clv lim call Y pc al (y3 :: y2 :: y1 :: Sum.inr (Sum.inr (some r)) :: st) n h 64 = am_cvq (h r) 6 ((st.length ≤ 4 ∧ (am_sl [Sum.inr (Sum.inr (some r)), y1, y2, y3]).length ≤ 6) ∧ n + 0 ≤ lim ∧ call 64 [Sum.inr (Sum.inr (some r)), y1, y2, y3] n h (fun v n' h' => Y (pc + 3) al (am_po v st) n' h')) := by
  show (match h r with | Sum.inl (c', _) => _ | _ => False) = _
  rcases h r with z | z <;> rfl
theorem cq_65 {y1 y2 y3 y4 y5 : am_V} : am_clv lim call Y pc al (y5 :: y4 :: y3 :: y2 :: y1 :: Sum.inr (Sum.inr (some r)) :: st) n h 65 = am_cvq (h r) 6 ((st.length ≤ 4 ∧ (am_sl [Sum.inr (Sum.inr (some r)), y1, y2, y3, y4, y5]).length ≤ 9) ∧ n + 0 ≤ lim ∧ call 65 [Sum.inr (Sum.inr (some r)), y1, y2, y3, y4, y5] n h (fun v n' h' => Y (pc + 3) al (am_po v st) n' h')) := by
  show (match h r with | Sum.inl (c', _) => _ | _ => False) = _
  rcases h r with z | z <;> rfl
theorem cq_66 {y1 y2 : am_V} : am_clv lim call Y pc al (y2 :: y1 :: Sum.inr (Sum.inr (some r)) :: st) n h 66 = am_cvq (h r) 6 ((st.length ≤ 4 ∧ (am_sl [Sum.inr (Sum.inr (some r)), y1, y2]).length ≤ 3) ∧ n + 0 ≤ lim ∧ call 66 [Sum.inr (Sum.inr (some r)), y1, y2] n h (fun v n' h' => Y (pc + 3) al (am_po v st) n' h')) := by
  show (match h r with | Sum.inl (c', _) => _ | _ => False) = _
  rcases h r with z | z <;> rfl
theorem cq_67 {y1 : am_V} : am_clv lim call Y pc al (y1 :: Sum.inr (Sum.inr (some r)) :: st) n h 67 = am_cvq (h r) 6 ((st.length ≤ 4 ∧ (am_sl [Sum.inr (Sum.inr (some r)), y1]).length ≤ 2) ∧ n + 0 ≤ lim ∧ call 67 [Sum.inr (Sum.inr (some r)), y1] n h (fun v n' h' => Y (pc + 3) al (am_po v st) n' h')) := by
  show (match h r with | Sum.inl (c', _) => _ | _ => False) = _
  rcases h r with z | z <;> rfl
theorem cq_68 {y1 : am_V} : am_clv lim call Y pc al (y1 :: Sum.inr (Sum.inr (some r)) :: st) n h 68 = am_cvq (h r) 6 ((st.length ≤ 4 ∧ (am_sl [Sum.inr (Sum.inr (some r)), y1]).length ≤ 4) ∧ n + 0 ≤ lim ∧ call 68 [Sum.inr (Sum.inr (some r)), y1] n h (fun v n' h' => Y (pc + 3) al (am_po v st) n' h')) := by
  show (match h r with | Sum.inl (c', _) => _ | _ => False) = _
  rcases h r with z | z <;> rfl
theorem cq_69 {y1 : am_V} : am_clv lim call Y pc al (y1 :: Sum.inr (Sum.inr (some r)) :: st) n h 69 = am_cvq (h r) 6 ((st.length ≤ 4 ∧ (am_sl [Sum.inr (Sum.inr (some r)), y1]).length ≤ 4) ∧ n + 0 ≤ lim ∧ call 69 [Sum.inr (Sum.inr (some r)), y1] n h (fun v n' h' => Y (pc + 3) al (am_po v st) n' h')) := by
  show (match h r with | Sum.inl (c', _) => _ | _ => False) = _
  rcases h r with z | z <;> rfl
theorem cq_70 {y1 y2 y3 : am_V} : am_clv lim call Y pc al (y3 :: y2 :: y1 :: Sum.inr (Sum.inr (some r)) :: st) n h 70 = am_cvq (h r) 6 ((st.length ≤ 4 ∧ (am_sl [Sum.inr (Sum.inr (some r)), y1, y2, y3]).length ≤ 8) ∧ n + 0 ≤ lim ∧ call 70 [Sum.inr (Sum.inr (some r)), y1, y2, y3] n h (fun v n' h' => Y (pc + 3) al (am_po v st) n' h')) := by
  show (match h r with | Sum.inl (c', _) => _ | _ => False) = _
  rcases h r with z | z <;> rfl
theorem cq_71 {y1 y2 y3 : am_V} : am_clv lim call Y pc al (y3 :: y2 :: y1 :: Sum.inr (Sum.inr (some r)) :: st) n h 71 = am_cvq (h r) 6 ((st.length ≤ 4 ∧ (am_sl [Sum.inr (Sum.inr (some r)), y1, y2, y3]).length ≤ 5) ∧ n + 0 ≤ lim ∧ call 71 [Sum.inr (Sum.inr (some r)), y1, y2, y3] n h (fun v n' h' => Y (pc + 3) al (am_po v st) n' h')) := by
  show (match h r with | Sum.inl (c', _) => _ | _ => False) = _
  rcases h r with z | z <;> rfl
theorem cq_72 {y1 : am_V} : am_clv lim call Y pc al (y1 :: Sum.inr (Sum.inr (some r)) :: st) n h 72 = am_cvq (h r) 6 ((st.length ≤ 4 ∧ (am_sl [Sum.inr (Sum.inr (some r)), y1]).length ≤ 3) ∧ n + 0 ≤ lim ∧ call 72 [Sum.inr (Sum.inr (some r)), y1] n h (fun v n' h' => Y (pc + 3) al (am_po v st) n' h')) := by
  show (match h r with | Sum.inl (c', _) => _ | _ => False) = _
  rcases h r with z | z <;> rfl
theorem cq_73 {y1 y2 y3 : am_V} : am_clv lim call Y pc al (y3 :: y2 :: y1 :: Sum.inr (Sum.inr (some r)) :: st) n h 73 = am_cvq (h r) 6 ((st.length ≤ 4 ∧ (am_sl [Sum.inr (Sum.inr (some r)), y1, y2, y3]).length ≤ 5) ∧ n + 0 ≤ lim ∧ call 73 [Sum.inr (Sum.inr (some r)), y1, y2, y3] n h (fun v n' h' => Y (pc + 3) al (am_po v st) n' h')) := by
  show (match h r with | Sum.inl (c', _) => _ | _ => False) = _
  rcases h r with z | z <;> rfl
theorem cq_74 {y1 y2 y3 : am_V} : am_clv lim call Y pc al (y3 :: y2 :: y1 :: Sum.inr (Sum.inr (some r)) :: st) n h 74 = am_cvq (h r) 6 ((st.length ≤ 4 ∧ (am_sl [Sum.inr (Sum.inr (some r)), y1, y2, y3]).length ≤ 6) ∧ n + 0 ≤ lim ∧ call 74 [Sum.inr (Sum.inr (some r)), y1, y2, y3] n h (fun v n' h' => Y (pc + 3) al (am_po v st) n' h')) := by
  show (match h r with | Sum.inl (c', _) => _ | _ => False) = _
  rcases h r with z | z <;> rfl
theorem cq_75 {y1 y2 y3 y4 y5 : am_V} : am_clv lim call Y pc al (y5 :: y4 :: y3 :: y2 :: y1 :: Sum.inr (Sum.inr (some r)) :: st) n h 75 = am_cvq (h r) 6 ((st.length ≤ 4 ∧ (am_sl [Sum.inr (Sum.inr (some r)), y1, y2, y3, y4, y5]).length ≤ 8) ∧ n + 0 ≤ lim ∧ call 75 [Sum.inr (Sum.inr (some r)), y1, y2, y3, y4, y5] n h (fun v n' h' => Y (pc + 3) al (am_po v st) n' h')) := by
  show (match h r with | Sum.inl (c', _) => _ | _ => False) = _
  rcases h r with z | z <;> rfl
theorem cq_76 {y1 : am_V} : am_clv lim call Y pc al (y1 :: Sum.inr (Sum.inr (some r)) :: st) n h 76 = am_cvq (h r) 6 ((st.length ≤ 4 ∧ (am_sl [Sum.inr (Sum.inr (some r)), y1]).length ≤ 3) ∧ n + 0 ≤ lim ∧ call 76 [Sum.inr (Sum.inr (some r)), y1] n h (fun v n' h' => Y (pc + 3) al (am_po v st) n' h')) := by
  show (match h r with | Sum.inl (c', _) => _ | _ => False) = _
  rcases h r with z | z <;> rfl
theorem cq_77 {y1 : am_V} : am_clv lim call Y pc al (y1 :: Sum.inr (Sum.inr (some r)) :: st) n h 77 = am_cvq (h r) 6 ((st.length ≤ 4 ∧ (am_sl [Sum.inr (Sum.inr (some r)), y1]).length ≤ 3) ∧ n + 0 ≤ lim ∧ call 77 [Sum.inr (Sum.inr (some r)), y1] n h (fun v n' h' => Y (pc + 3) al (am_po v st) n' h')) := by
  show (match h r with | Sum.inl (c', _) => _ | _ => False) = _
  rcases h r with z | z <;> rfl
theorem cq_78 {y1 y2 : am_V} : am_clv lim call Y pc al (y2 :: y1 :: Sum.inr (Sum.inr (some r)) :: st) n h 78 = am_cvq (h r) 6 ((st.length ≤ 4 ∧ (am_sl [Sum.inr (Sum.inr (some r)), y1, y2]).length ≤ 4) ∧ n + 0 ≤ lim ∧ call 78 [Sum.inr (Sum.inr (some r)), y1, y2] n h (fun v n' h' => Y (pc + 3) al (am_po v st) n' h')) := by
  show (match h r with | Sum.inl (c', _) => _ | _ => False) = _
  rcases h r with z | z <;> rfl
theorem cq_79 : am_clv lim call Y pc al (Sum.inr (Sum.inr (some r)) :: st) n h 79 = am_cvq (h r) 6 ((st.length ≤ 4 ∧ (am_sl [Sum.inr (Sum.inr (some r))]).length ≤ 1) ∧ n + 0 ≤ lim ∧ call 79 [Sum.inr (Sum.inr (some r))] n h (fun v n' h' => Y (pc + 3) al (am_po v st) n' h')) := by
  show (match h r with | Sum.inl (c', _) => _ | _ => False) = _
  rcases h r with z | z <;> rfl
theorem cq_80 : am_clv lim call Y pc al (Sum.inr (Sum.inr (some r)) :: st) n h 80 = am_cvq (h r) 6 ((st.length ≤ 4 ∧ (am_sl [Sum.inr (Sum.inr (some r))]).length ≤ 1) ∧ n + 0 ≤ lim ∧ call 80 [Sum.inr (Sum.inr (some r))] n h (fun v n' h' => Y (pc + 3) al (am_po v st) n' h')) := by
  show (match h r with | Sum.inl (c', _) => _ | _ => False) = _
  rcases h r with z | z <;> rfl
theorem cq_81 {y1 : am_V} : am_clv lim call Y pc al (y1 :: Sum.inr (Sum.inr (some r)) :: st) n h 81 = am_cvq (h r) 6 ((st.length ≤ 4 ∧ (am_sl [Sum.inr (Sum.inr (some r)), y1]).length ≤ 2) ∧ n + 0 ≤ lim ∧ call 81 [Sum.inr (Sum.inr (some r)), y1] n h (fun v n' h' => Y (pc + 3) al (am_po v st) n' h')) := by
  show (match h r with | Sum.inl (c', _) => _ | _ => False) = _
  rcases h r with z | z <;> rfl
theorem cq_82 {y0 y1 : am_V} : am_cls lim call Y pc al (y1 :: y0 :: st) n h 82 = ((st.length ≤ 4 ∧ (am_sl [y0, y1]).length ≤ 2) ∧ n + 0 ≤ lim ∧ call 82 [y0, y1] n h (fun v n' h' => Y (pc + 3) al (am_po v st) n' h')) := rfl
theorem cq_83 {y0 : am_V} : am_cls lim call Y pc al (y0 :: st) n h 83 = ((st.length ≤ 4 ∧ (am_sl [y0]).length ≤ 1) ∧ n + 0 ≤ lim ∧ call 83 [y0] n h (fun v n' h' => Y (pc + 3) al (am_po v st) n' h')) := rfl
theorem cq_84 {y1 : am_V} : am_clv lim call Y pc al (y1 :: Sum.inr (Sum.inr (some r)) :: st) n h 84 = am_cvq (h r) 6 ((st.length ≤ 4 ∧ (am_sl [Sum.inr (Sum.inr (some r)), y1]).length ≤ 2) ∧ n + 0 ≤ lim ∧ call 84 [Sum.inr (Sum.inr (some r)), y1] n h (fun v n' h' => Y (pc + 3) al (am_po v st) n' h')) := by
  show (match h r with | Sum.inl (c', _) => _ | _ => False) = _
  rcases h r with z | z <;> rfl
theorem cq_85 {y1 : am_V} : am_clv lim call Y pc al (y1 :: Sum.inr (Sum.inr (some r)) :: st) n h 85 = am_cvq (h r) 6 ((st.length ≤ 4 ∧ (am_sl [Sum.inr (Sum.inr (some r)), y1]).length ≤ 2) ∧ n + 0 ≤ lim ∧ call 85 [Sum.inr (Sum.inr (some r)), y1] n h (fun v n' h' => Y (pc + 3) al (am_po v st) n' h')) := by
  show (match h r with | Sum.inl (c', _) => _ | _ => False) = _
  rcases h r with z | z <;> rfl
theorem cq_86 {y1 y2 y3 : am_V} : am_clv lim call Y pc al (y3 :: y2 :: y1 :: Sum.inr (Sum.inr (some r)) :: st) n h 86 = am_cvq (h r) 6 ((st.length ≤ 4 ∧ (am_sl [Sum.inr (Sum.inr (some r)), y1, y2, y3]).length ≤ 4) ∧ n + 0 ≤ lim ∧ call 86 [Sum.inr (Sum.inr (some r)), y1, y2, y3] n h (fun v n' h' => Y (pc + 3) al (am_po v st) n' h')) := by
  show (match h r with | Sum.inl (c', _) => _ | _ => False) = _
  rcases h r with z | z <;> rfl
theorem cq_87 {y1 : am_V} : am_clv lim call Y pc al (y1 :: Sum.inr (Sum.inr (some r)) :: st) n h 87 = am_cvq (h r) 6 ((st.length ≤ 4 ∧ (am_sl [Sum.inr (Sum.inr (some r)), y1]).length ≤ 4) ∧ n + 0 ≤ lim ∧ call 87 [Sum.inr (Sum.inr (some r)), y1] n h (fun v n' h' => Y (pc + 3) al (am_po v st) n' h')) := by
  show (match h r with | Sum.inl (c', _) => _ | _ => False) = _
  rcases h r with z | z <;> rfl
theorem cq_88 {y1 : am_V} : am_clv lim call Y pc al (y1 :: Sum.inr (Sum.inr (some r)) :: st) n h 88 = am_cvq (h r) 6 ((st.length ≤ 4 ∧ (am_sl [Sum.inr (Sum.inr (some r)), y1]).length ≤ 3) ∧ n + 0 ≤ lim ∧ call 88 [Sum.inr (Sum.inr (some r)), y1] n h (fun v n' h' => Y (pc + 3) al (am_po v st) n' h')) := by
  show (match h r with | Sum.inl (c', _) => _ | _ => False) = _
  rcases h r with z | z <;> rfl
theorem cq_89 {y0 : am_V} : am_cls lim call Y pc al (y0 :: st) n h 89 = ((st.length ≤ 4 ∧ (am_sl [y0]).length ≤ 1) ∧ n + 0 ≤ lim ∧ call 89 [y0] n h (fun v n' h' => Y (pc + 3) al (am_po v st) n' h')) := rfl
theorem cq_90 {y0 : am_V} : am_cls lim call Y pc al (y0 :: st) n h 90 = ((st.length ≤ 4 ∧ (am_sl [y0]).length ≤ 1) ∧ n + 0 ≤ lim ∧ call 90 [y0] n h (fun v n' h' => Y (pc + 3) al (am_po v st) n' h')) := rfl
theorem cq_91 {y0 y1 y2 : am_V} : am_cls lim call Y pc al (y2 :: y1 :: y0 :: st) n h 91 = ((st.length ≤ 4 ∧ (am_sl [y0, y1, y2]).length ≤ 4) ∧ n + 0 ≤ lim ∧ call 91 [y0, y1, y2] n h (fun v n' h' => Y (pc + 3) al (am_po v st) n' h')) := rfl
theorem cq_92 {y0 y1 : am_V} : am_cls lim call Y pc al (y1 :: y0 :: st) n h 92 = ((st.length ≤ 4 ∧ (am_sl [y0, y1]).length ≤ 2) ∧ n + 0 ≤ lim ∧ call 92 [y0, y1] n h (fun v n' h' => Y (pc + 3) al (am_po v st) n' h')) := rfl
theorem cq_93 {y1 y2 y3 : am_V} : am_clv lim call Y pc al (y3 :: y2 :: y1 :: Sum.inr (Sum.inr (some r)) :: st) n h 93 = am_cvq (h r) 6 ((st.length ≤ 4 ∧ (am_sl [Sum.inr (Sum.inr (some r)), y1, y2, y3]).length ≤ 5) ∧ n + 0 ≤ lim ∧ call 93 [Sum.inr (Sum.inr (some r)), y1, y2, y3] n h (fun v n' h' => Y (pc + 3) al (am_po v st) n' h')) := by
  show (match h r with | Sum.inl (c', _) => _ | _ => False) = _
  rcases h r with z | z <;> rfl
theorem cq_94 {y1 : am_V} : am_clv lim call Y pc al (y1 :: Sum.inr (Sum.inr (some r)) :: st) n h 94 = am_cvq (h r) 6 ((st.length ≤ 4 ∧ (am_sl [Sum.inr (Sum.inr (some r)), y1]).length ≤ 2) ∧ n + 0 ≤ lim ∧ call 94 [Sum.inr (Sum.inr (some r)), y1] n h (fun v n' h' => Y (pc + 3) al (am_po v st) n' h')) := by
  show (match h r with | Sum.inl (c', _) => _ | _ => False) = _
  rcases h r with z | z <;> rfl
theorem cq_95 {y1 : am_V} : am_clv lim call Y pc al (y1 :: Sum.inr (Sum.inr (some r)) :: st) n h 95 = am_cvq (h r) 6 ((st.length ≤ 4 ∧ (am_sl [Sum.inr (Sum.inr (some r)), y1]).length ≤ 2) ∧ n + 0 ≤ lim ∧ call 95 [Sum.inr (Sum.inr (some r)), y1] n h (fun v n' h' => Y (pc + 3) al (am_po v st) n' h')) := by
  show (match h r with | Sum.inl (c', _) => _ | _ => False) = _
  rcases h r with z | z <;> rfl
theorem cq_96 {y1 : am_V} : am_clv lim call Y pc al (y1 :: Sum.inr (Sum.inr (some r)) :: st) n h 96 = am_cvq (h r) 6 ((st.length ≤ 4 ∧ (am_sl [Sum.inr (Sum.inr (some r)), y1]).length ≤ 2) ∧ n + 0 ≤ lim ∧ call 96 [Sum.inr (Sum.inr (some r)), y1] n h (fun v n' h' => Y (pc + 3) al (am_po v st) n' h')) := by
  show (match h r with | Sum.inl (c', _) => _ | _ => False) = _
  rcases h r with z | z <;> rfl
theorem cq_97 {y1 : am_V} : am_clv lim call Y pc al (y1 :: Sum.inr (Sum.inr (some r)) :: st) n h 97 = am_cvq (h r) 6 ((st.length ≤ 4 ∧ (am_sl [Sum.inr (Sum.inr (some r)), y1]).length ≤ 2) ∧ n + 0 ≤ lim ∧ call 97 [Sum.inr (Sum.inr (some r)), y1] n h (fun v n' h' => Y (pc + 3) al (am_po v st) n' h')) := by
  show (match h r with | Sum.inl (c', _) => _ | _ => False) = _
  rcases h r with z | z <;> rfl
theorem cq_98 {y1 : am_V} : am_clv lim call Y pc al (y1 :: Sum.inr (Sum.inr (some r)) :: st) n h 98 = am_cvq (h r) 6 ((st.length ≤ 4 ∧ (am_sl [Sum.inr (Sum.inr (some r)), y1]).length ≤ 2) ∧ n + 0 ≤ lim ∧ call 98 [Sum.inr (Sum.inr (some r)), y1] n h (fun v n' h' => Y (pc + 3) al (am_po v st) n' h')) := by
  show (match h r with | Sum.inl (c', _) => _ | _ => False) = _
  rcases h r with z | z <;> rfl
theorem cq_99 : am_cli lim call Y pc al (Sum.inr (Sum.inr (some r)) :: st) n h 99 = ((st.length ≤ 4 ∧ (am_sl [Sum.inr (Sum.inr (some r))]).length ≤ 1) ∧ n + 25 ≤ lim ∧ call 99 [Sum.inr (Sum.inr (some r))] n h (fun v n' h' => Y (pc + 3) al (am_po v st) n' h')) := rfl
theorem cq_100 {y1 : am_V} : am_clv lim call Y pc al (y1 :: Sum.inr (Sum.inr (some r)) :: st) n h 100 = am_cvq (h r) 7 ((st.length ≤ 4 ∧ (am_sl [Sum.inr (Sum.inr (some r)), y1]).length ≤ 2) ∧ n + 0 ≤ lim ∧ call 100 [Sum.inr (Sum.inr (some r)), y1] n h (fun v n' h' => Y (pc + 3) al (am_po v st) n' h')) := by
  show (match h r with | Sum.inl (c', _) => _ | _ => False) = _
  rcases h r with z | z <;> rfl
theorem cq_101 {y1 : am_V} : am_clv lim call Y pc al (y1 :: Sum.inr (Sum.inr (some r)) :: st) n h 101 = am_cvq (h r) 7 ((st.length ≤ 4 ∧ (am_sl [Sum.inr (Sum.inr (some r)), y1]).length ≤ 2) ∧ n + 0 ≤ lim ∧ call 101 [Sum.inr (Sum.inr (some r)), y1] n h (fun v n' h' => Y (pc + 3) al (am_po v st) n' h')) := by
  show (match h r with | Sum.inl (c', _) => _ | _ => False) = _
  rcases h r with z | z <;> rfl
theorem cq_102 {y0 y1 y2 : am_V} : am_cls lim call Y pc al (y2 :: y1 :: y0 :: st) n h 102 = ((st.length ≤ 4 ∧ (am_sl [y0, y1, y2]).length ≤ 3) ∧ n + 0 ≤ lim ∧ call 102 [y0, y1, y2] n h (fun v n' h' => Y (pc + 3) al (am_po v st) n' h')) := rfl
theorem cq_103 {y0 : am_V} : am_cls lim call Y pc al (y0 :: st) n h 103 = ((st.length ≤ 4 ∧ (am_sl [y0]).length ≤ 1) ∧ n + 0 ≤ lim ∧ call 103 [y0] n h (fun v n' h' => Y (pc + 3) al (am_po v st) n' h')) := rfl
theorem cq_104 {y0 : am_V} : am_cls lim call Y pc al (y0 :: st) n h 104 = ((st.length ≤ 4 ∧ (am_sl [y0]).length ≤ 1) ∧ n + 0 ≤ lim ∧ call 104 [y0] n h (fun v n' h' => Y (pc + 3) al (am_po v st) n' h')) := rfl
theorem cq_105 {y1 y2 y3 y4 : am_V} : am_clv lim call Y pc al (y4 :: y3 :: y2 :: y1 :: Sum.inr (Sum.inr (some r)) :: st) n h 105 = am_cvq (h r) 7 ((st.length ≤ 4 ∧ (am_sl [Sum.inr (Sum.inr (some r)), y1, y2, y3, y4]).length ≤ 5) ∧ n + 0 ≤ lim ∧ call 105 [Sum.inr (Sum.inr (some r)), y1, y2, y3, y4] n h (fun v n' h' => Y (pc + 3) al (am_po v st) n' h')) := by
  show (match h r with | Sum.inl (c', _) => _ | _ => False) = _
  rcases h r with z | z <;> rfl
theorem cq_106 {y1 : am_V} : am_clv lim call Y pc al (y1 :: Sum.inr (Sum.inr (some r)) :: st) n h 106 = am_cvq (h r) 7 ((st.length ≤ 4 ∧ (am_sl [Sum.inr (Sum.inr (some r)), y1]).length ≤ 2) ∧ n + 0 ≤ lim ∧ call 106 [Sum.inr (Sum.inr (some r)), y1] n h (fun v n' h' => Y (pc + 3) al (am_po v st) n' h')) := by
  show (match h r with | Sum.inl (c', _) => _ | _ => False) = _
  rcases h r with z | z <;> rfl
theorem cq_107 {y1 : am_V} : am_clv lim call Y pc al (y1 :: Sum.inr (Sum.inr (some r)) :: st) n h 107 = am_cvq (h r) 7 ((st.length ≤ 4 ∧ (am_sl [Sum.inr (Sum.inr (some r)), y1]).length ≤ 2) ∧ n + 0 ≤ lim ∧ call 107 [Sum.inr (Sum.inr (some r)), y1] n h (fun v n' h' => Y (pc + 3) al (am_po v st) n' h')) := by
  show (match h r with | Sum.inl (c', _) => _ | _ => False) = _
  rcases h r with z | z <;> rfl
theorem cq_108 {y1 y2 y3 : am_V} : am_clv lim call Y pc al (y3 :: y2 :: y1 :: Sum.inr (Sum.inr (some r)) :: st) n h 108 = am_cvq (h r) 7 ((st.length ≤ 4 ∧ (am_sl [Sum.inr (Sum.inr (some r)), y1, y2, y3]).length ≤ 4) ∧ n + 0 ≤ lim ∧ call 108 [Sum.inr (Sum.inr (some r)), y1, y2, y3] n h (fun v n' h' => Y (pc + 3) al (am_po v st) n' h')) := by
  show (match h r with | Sum.inl (c', _) => _ | _ => False) = _
  rcases h r with z | z <;> rfl
theorem cq_109 {y1 y2 : am_V} : am_clv lim call Y pc al (y2 :: y1 :: Sum.inr (Sum.inr (some r)) :: st) n h 109 = am_cvq (h r) 7 ((st.length ≤ 4 ∧ (am_sl [Sum.inr (Sum.inr (some r)), y1, y2]).length ≤ 3) ∧ n + 0 ≤ lim ∧ call 109 [Sum.inr (Sum.inr (some r)), y1, y2] n h (fun v n' h' => Y (pc + 3) al (am_po v st) n' h')) := by
  show (match h r with | Sum.inl (c', _) => _ | _ => False) = _
  rcases h r with z | z <;> rfl
theorem cq_110 {y1 y2 y3 y4 : am_V} : am_clv lim call Y pc al (y4 :: y3 :: y2 :: y1 :: Sum.inr (Sum.inr (some r)) :: st) n h 110 = am_cvq (h r) 7 ((st.length ≤ 4 ∧ (am_sl [Sum.inr (Sum.inr (some r)), y1, y2, y3, y4]).length ≤ 8) ∧ n + 0 ≤ lim ∧ call 110 [Sum.inr (Sum.inr (some r)), y1, y2, y3, y4] n h (fun v n' h' => Y (pc + 3) al (am_po v st) n' h')) := by
  show (match h r with | Sum.inl (c', _) => _ | _ => False) = _
  rcases h r with z | z <;> rfl
theorem cq_111 {y1 : am_V} : am_clv lim call Y pc al (y1 :: Sum.inr (Sum.inr (some r)) :: st) n h 111 = am_cvq (h r) 7 ((st.length ≤ 4 ∧ (am_sl [Sum.inr (Sum.inr (some r)), y1]).length ≤ 2) ∧ n + 0 ≤ lim ∧ call 111 [Sum.inr (Sum.inr (some r)), y1] n h (fun v n' h' => Y (pc + 3) al (am_po v st) n' h')) := by
  show (match h r with | Sum.inl (c', _) => _ | _ => False) = _
  rcases h r with z | z <;> rfl
theorem cq_112 {y1 y2 : am_V} : am_clv lim call Y pc al (y2 :: y1 :: Sum.inr (Sum.inr (some r)) :: st) n h 112 = am_cvq (h r) 7 ((st.length ≤ 4 ∧ (am_sl [Sum.inr (Sum.inr (some r)), y1, y2]).length ≤ 5) ∧ n + 0 ≤ lim ∧ call 112 [Sum.inr (Sum.inr (some r)), y1, y2] n h (fun v n' h' => Y (pc + 3) al (am_po v st) n' h')) := by
  show (match h r with | Sum.inl (c', _) => _ | _ => False) = _
  rcases h r with z | z <;> rfl
theorem cq_113 {y1 y2 : am_V} : am_clv lim call Y pc al (y2 :: y1 :: Sum.inr (Sum.inr (some r)) :: st) n h 113 = am_cvq (h r) 7 ((st.length ≤ 4 ∧ (am_sl [Sum.inr (Sum.inr (some r)), y1, y2]).length ≤ 5) ∧ n + 0 ≤ lim ∧ call 113 [Sum.inr (Sum.inr (some r)), y1, y2] n h (fun v n' h' => Y (pc + 3) al (am_po v st) n' h')) := by
  show (match h r with | Sum.inl (c', _) => _ | _ => False) = _
  rcases h r with z | z <;> rfl
theorem cq_114 {y1 : am_V} : am_clv lim call Y pc al (y1 :: Sum.inr (Sum.inr (some r)) :: st) n h 114 = am_cvq (h r) 7 ((st.length ≤ 4 ∧ (am_sl [Sum.inr (Sum.inr (some r)), y1]).length ≤ 2) ∧ n + 0 ≤ lim ∧ call 114 [Sum.inr (Sum.inr (some r)), y1] n h (fun v n' h' => Y (pc + 3) al (am_po v st) n' h')) := by
  show (match h r with | Sum.inl (c', _) => _ | _ => False) = _
  rcases h r with z | z <;> rfl
theorem cq_115 {y1 y2 : am_V} : am_clv lim call Y pc al (y2 :: y1 :: Sum.inr (Sum.inr (some r)) :: st) n h 115 = am_cvq (h r) 7 ((st.length ≤ 4 ∧ (am_sl [Sum.inr (Sum.inr (some r)), y1, y2]).length ≤ 3) ∧ n + 0 ≤ lim ∧ call 115 [Sum.inr (Sum.inr (some r)), y1, y2] n h (fun v n' h' => Y (pc + 3) al (am_po v st) n' h')) := by
  show (match h r with | Sum.inl (c', _) => _ | _ => False) = _
  rcases h r with z | z <;> rfl
theorem cq_116 {y1 y2 y3 y4 : am_V} : am_clv lim call Y pc al (y4 :: y3 :: y2 :: y1 :: Sum.inr (Sum.inr (some r)) :: st) n h 116 = am_cvq (h r) 7 ((st.length ≤ 4 ∧ (am_sl [Sum.inr (Sum.inr (some r)), y1, y2, y3, y4]).length ≤ 5) ∧ n + 0 ≤ lim ∧ call 116 [Sum.inr (Sum.inr (some r)), y1, y2, y3, y4] n h (fun v n' h' => Y (pc + 3) al (am_po v st) n' h')) := by
  show (match h r with | Sum.inl (c', _) => _ | _ => False) = _
  rcases h r with z | z <;> rfl
theorem cq_117 {y1 : am_V} : am_clv lim call Y pc al (y1 :: Sum.inr (Sum.inr (some r)) :: st) n h 117 = am_cvq (h r) 7 ((st.length ≤ 4 ∧ (am_sl [Sum.inr (Sum.inr (some r)), y1]).length ≤ 2) ∧ n + 0 ≤ lim ∧ call 117 [Sum.inr (Sum.inr (some r)), y1] n h (fun v n' h' => Y (pc + 3) al (am_po v st) n' h')) := by
  show (match h r with | Sum.inl (c', _) => _ | _ => False) = _
  rcases h r with z | z <;> rfl
theorem cq_118 {y1 : am_V} : am_clv lim call Y pc al (y1 :: Sum.inr (Sum.inr (some r)) :: st) n h 118 = am_cvq (h r) 7 ((st.length ≤ 4 ∧ (am_sl [Sum.inr (Sum.inr (some r)), y1]).length ≤ 2) ∧ n + 0 ≤ lim ∧ call 118 [Sum.inr (Sum.inr (some r)), y1] n h (fun v n' h' => Y (pc + 3) al (am_po v st) n' h')) := by
  show (match h r with | Sum.inl (c', _) => _ | _ => False) = _
  rcases h r with z | z <;> rfl
theorem cq_119 {y1 y2 y3 : am_V} : am_clv lim call Y pc al (y3 :: y2 :: y1 :: Sum.inr (Sum.inr (some r)) :: st) n h 119 = am_cvq (h r) 7 ((st.length ≤ 4 ∧ (am_sl [Sum.inr (Sum.inr (some r)), y1, y2, y3]).length ≤ 4) ∧ n + 0 ≤ lim ∧ call 119 [Sum.inr (Sum.inr (some r)), y1, y2, y3] n h (fun v n' h' => Y (pc + 3) al (am_po v st) n' h')) := by
  show (match h r with | Sum.inl (c', _) => _ | _ => False) = _
  rcases h r with z | z <;> rfl
theorem cq_120 : am_clv lim call Y pc al (Sum.inr (Sum.inr (some r)) :: st) n h 120 = am_cvq (h r) 7 ((st.length ≤ 4 ∧ (am_sl [Sum.inr (Sum.inr (some r))]).length ≤ 3) ∧ n + 0 ≤ lim ∧ call 120 [Sum.inr (Sum.inr (some r))] n h (fun v n' h' => Y (pc + 3) al (am_po v st) n' h')) := by
  show (match h r with | Sum.inl (c', _) => _ | _ => False) = _
  rcases h r with z | z <;> rfl
theorem cq_121 {y1 y2 : am_V} : am_clv lim call Y pc al (y2 :: y1 :: Sum.inr (Sum.inr (some r)) :: st) n h 121 = am_cvq (h r) 7 ((st.length ≤ 4 ∧ (am_sl [Sum.inr (Sum.inr (some r)), y1, y2]).length ≤ 3) ∧ n + 0 ≤ lim ∧ call 121 [Sum.inr (Sum.inr (some r)), y1, y2] n h (fun v n' h' => Y (pc + 3) al (am_po v st) n' h')) := by
  show (match h r with | Sum.inl (c', _) => _ | _ => False) = _
  rcases h r with z | z <;> rfl
theorem cq_122 {y1 y2 : am_V} : am_clv lim call Y pc al (y2 :: y1 :: Sum.inr (Sum.inr (some r)) :: st) n h 122 = am_cvq (h r) 7 ((st.length ≤ 4 ∧ (am_sl [Sum.inr (Sum.inr (some r)), y1, y2]).length ≤ 4) ∧ n + 0 ≤ lim ∧ call 122 [Sum.inr (Sum.inr (some r)), y1, y2] n h (fun v n' h' => Y (pc + 3) al (am_po v st) n' h')) := by
  show (match h r with | Sum.inl (c', _) => _ | _ => False) = _
  rcases h r with z | z <;> rfl
theorem cq_123 {y0 y1 : am_V} : am_cls lim call Y pc al (y1 :: y0 :: st) n h 123 = ((st.length ≤ 4 ∧ (am_sl [y0, y1]).length ≤ 2) ∧ n + 0 ≤ lim ∧ call 123 [y0, y1] n h (fun v n' h' => Y (pc + 3) al (am_po v st) n' h')) := rfl
theorem cq_124 {y0 y1 : am_V} : am_cls lim call Y pc al (y1 :: y0 :: st) n h 124 = ((st.length ≤ 4 ∧ (am_sl [y0, y1]).length ≤ 2) ∧ n + 0 ≤ lim ∧ call 124 [y0, y1] n h (fun v n' h' => Y (pc + 3) al (am_po v st) n' h')) := rfl
theorem cq_125 {y1 y2 : am_V} : am_clv lim call Y pc al (y2 :: y1 :: Sum.inr (Sum.inr (some r)) :: st) n h 125 = am_cvq (h r) 7 ((st.length ≤ 4 ∧ (am_sl [Sum.inr (Sum.inr (some r)), y1, y2]).length ≤ 6) ∧ n + 0 ≤ lim ∧ call 125 [Sum.inr (Sum.inr (some r)), y1, y2] n h (fun v n' h' => Y (pc + 3) al (am_po v st) n' h')) := by
  show (match h r with | Sum.inl (c', _) => _ | _ => False) = _
  rcases h r with z | z <;> rfl
theorem cq_126 {y1 y2 y3 y4 : am_V} : am_clv lim call Y pc al (y4 :: y3 :: y2 :: y1 :: Sum.inr (Sum.inr (some r)) :: st) n h 126 = am_cvq (h r) 7 ((st.length ≤ 4 ∧ (am_sl [Sum.inr (Sum.inr (some r)), y1, y2, y3, y4]).length ≤ 7) ∧ n + 0 ≤ lim ∧ call 126 [Sum.inr (Sum.inr (some r)), y1, y2, y3, y4] n h (fun v n' h' => Y (pc + 3) al (am_po v st) n' h')) := by
  show (match h r with | Sum.inl (c', _) => _ | _ => False) = _
  rcases h r with z | z <;> rfl
theorem cq_127 {y1 y2 : am_V} : am_clv lim call Y pc al (y2 :: y1 :: Sum.inr (Sum.inr (some r)) :: st) n h 127 = am_cvq (h r) 7 ((st.length ≤ 4 ∧ (am_sl [Sum.inr (Sum.inr (some r)), y1, y2]).length ≤ 4) ∧ n + 0 ≤ lim ∧ call 127 [Sum.inr (Sum.inr (some r)), y1, y2] n h (fun v n' h' => Y (pc + 3) al (am_po v st) n' h')) := by
  show (match h r with | Sum.inl (c', _) => _ | _ => False) = _
  rcases h r with z | z <;> rfl
theorem cq_128 : am_clv lim call Y pc al (Sum.inr (Sum.inr (some r)) :: st) n h 128 = am_cvq (h r) 7 ((st.length ≤ 4 ∧ (am_sl [Sum.inr (Sum.inr (some r))]).length ≤ 1) ∧ n + 0 ≤ lim ∧ call 128 [Sum.inr (Sum.inr (some r))] n h (fun v n' h' => Y (pc + 3) al (am_po v st) n' h')) := by
  show (match h r with | Sum.inl (c', _) => _ | _ => False) = _
  rcases h r with z | z <;> rfl
theorem cq_129 {y1 y2 : am_V} : am_clv lim call Y pc al (y2 :: y1 :: Sum.inr (Sum.inr (some r)) :: st) n h 129 = am_cvq (h r) 7 ((st.length ≤ 4 ∧ (am_sl [Sum.inr (Sum.inr (some r)), y1, y2]).length ≤ 4) ∧ n + 0 ≤ lim ∧ call 129 [Sum.inr (Sum.inr (some r)), y1, y2] n h (fun v n' h' => Y (pc + 3) al (am_po v st) n' h')) := by
  show (match h r with | Sum.inl (c', _) => _ | _ => False) = _
  rcases h r with z | z <;> rfl
theorem cq_130 {y1 y2 : am_V} : am_clv lim call Y pc al (y2 :: y1 :: Sum.inr (Sum.inr (some r)) :: st) n h 130 = am_cvq (h r) 7 ((st.length ≤ 4 ∧ (am_sl [Sum.inr (Sum.inr (some r)), y1, y2]).length ≤ 3) ∧ n + 0 ≤ lim ∧ call 130 [Sum.inr (Sum.inr (some r)), y1, y2] n h (fun v n' h' => Y (pc + 3) al (am_po v st) n' h')) := by
  show (match h r with | Sum.inl (c', _) => _ | _ => False) = _
  rcases h r with z | z <;> rfl
theorem cq_131 {y1 : am_V} : am_clv lim call Y pc al (y1 :: Sum.inr (Sum.inr (some r)) :: st) n h 131 = am_cvq (h r) 7 ((st.length ≤ 4 ∧ (am_sl [Sum.inr (Sum.inr (some r)), y1]).length ≤ 4) ∧ n + 0 ≤ lim ∧ call 131 [Sum.inr (Sum.inr (some r)), y1] n h (fun v n' h' => Y (pc + 3) al (am_po v st) n' h')) := by
  show (match h r with | Sum.inl (c', _) => _ | _ => False) = _
  rcases h r with z | z <;> rfl
theorem cq_132 {y1 y2 : am_V} : am_clv lim call Y pc al (y2 :: y1 :: Sum.inr (Sum.inr (some r)) :: st) n h 132 = am_cvq (h r) 7 ((st.length ≤ 4 ∧ (am_sl [Sum.inr (Sum.inr (some r)), y1, y2]).length ≤ 3) ∧ n + 0 ≤ lim ∧ call 132 [Sum.inr (Sum.inr (some r)), y1, y2] n h (fun v n' h' => Y (pc + 3) al (am_po v st) n' h')) := by
  show (match h r with | Sum.inl (c', _) => _ | _ => False) = _
  rcases h r with z | z <;> rfl
theorem cq_133 {y1 y2 : am_V} : am_clv lim call Y pc al (y2 :: y1 :: Sum.inr (Sum.inr (some r)) :: st) n h 133 = am_cvq (h r) 7 ((st.length ≤ 4 ∧ (am_sl [Sum.inr (Sum.inr (some r)), y1, y2]).length ≤ 4) ∧ n + 0 ≤ lim ∧ call 133 [Sum.inr (Sum.inr (some r)), y1, y2] n h (fun v n' h' => Y (pc + 3) al (am_po v st) n' h')) := by
  show (match h r with | Sum.inl (c', _) => _ | _ => False) = _
  rcases h r with z | z <;> rfl
theorem cq_134 {y1 y2 : am_V} : am_clv lim call Y pc al (y2 :: y1 :: Sum.inr (Sum.inr (some r)) :: st) n h 134 = am_cvq (h r) 7 ((st.length ≤ 4 ∧ (am_sl [Sum.inr (Sum.inr (some r)), y1, y2]).length ≤ 7) ∧ n + 0 ≤ lim ∧ call 134 [Sum.inr (Sum.inr (some r)), y1, y2] n h (fun v n' h' => Y (pc + 3) al (am_po v st) n' h')) := by
  show (match h r with | Sum.inl (c', _) => _ | _ => False) = _
  rcases h r with z | z <;> rfl
theorem cq_135 {y1 y2 : am_V} : am_clv lim call Y pc al (y2 :: y1 :: Sum.inr (Sum.inr (some r)) :: st) n h 135 = am_cvq (h r) 7 ((st.length ≤ 4 ∧ (am_sl [Sum.inr (Sum.inr (some r)), y1, y2]).length ≤ 3) ∧ n + 0 ≤ lim ∧ call 135 [Sum.inr (Sum.inr (some r)), y1, y2] n h (fun v n' h' => Y (pc + 3) al (am_po v st) n' h')) := by
  show (match h r with | Sum.inl (c', _) => _ | _ => False) = _
  rcases h r with z | z <;> rfl
theorem cq_136 {y1 : am_V} : am_clv lim call Y pc al (y1 :: Sum.inr (Sum.inr (some r)) :: st) n h 136 = am_cvq (h r) 7 ((st.length ≤ 4 ∧ (am_sl [Sum.inr (Sum.inr (some r)), y1]).length ≤ 4) ∧ n + 0 ≤ lim ∧ call 136 [Sum.inr (Sum.inr (some r)), y1] n h (fun v n' h' => Y (pc + 3) al (am_po v st) n' h')) := by
  show (match h r with | Sum.inl (c', _) => _ | _ => False) = _
  rcases h r with z | z <;> rfl
theorem cq_137 {y1 y2 y3 : am_V} : am_clv lim call Y pc al (y3 :: y2 :: y1 :: Sum.inr (Sum.inr (some r)) :: st) n h 137 = am_cvq (h r) 7 ((st.length ≤ 4 ∧ (am_sl [Sum.inr (Sum.inr (some r)), y1, y2, y3]).length ≤ 4) ∧ n + 0 ≤ lim ∧ call 137 [Sum.inr (Sum.inr (some r)), y1, y2, y3] n h (fun v n' h' => Y (pc + 3) al (am_po v st) n' h')) := by
  show (match h r with | Sum.inl (c', _) => _ | _ => False) = _
  rcases h r with z | z <;> rfl
theorem cq_138 {y1 y2 : am_V} : am_clv lim call Y pc al (y2 :: y1 :: Sum.inr (Sum.inr (some r)) :: st) n h 138 = am_cvq (h r) 7 ((st.length ≤ 4 ∧ (am_sl [Sum.inr (Sum.inr (some r)), y1, y2]).length ≤ 3) ∧ n + 0 ≤ lim ∧ call 138 [Sum.inr (Sum.inr (some r)), y1, y2] n h (fun v n' h' => Y (pc + 3) al (am_po v st) n' h')) := by
  show (match h r with | Sum.inl (c', _) => _ | _ => False) = _
  rcases h r with z | z <;> rfl
theorem cq_139 {y0 y1 : am_V} : am_cls lim call Y pc al (y1 :: y0 :: st) n h 139 = ((st.length ≤ 4 ∧ (am_sl [y0, y1]).length ≤ 2) ∧ n + 0 ≤ lim ∧ call 139 [y0, y1] n h (fun v n' h' => Y (pc + 3) al (am_po v st) n' h')) := rfl
theorem cq_140 {y1 y2 : am_V} : am_clv lim call Y pc al (y2 :: y1 :: Sum.inr (Sum.inr (some r)) :: st) n h 140 = am_cvq (h r) 7 ((st.length ≤ 4 ∧ (am_sl [Sum.inr (Sum.inr (some r)), y1, y2]).length ≤ 4) ∧ n + 0 ≤ lim ∧ call 140 [Sum.inr (Sum.inr (some r)), y1, y2] n h (fun v n' h' => Y (pc + 3) al (am_po v st) n' h')) := by
  show (match h r with | Sum.inl (c', _) => _ | _ => False) = _
  rcases h r with z | z <;> rfl
theorem cq_141 {y1 y2 y3 y4 y5 : am_V} : am_clv lim call Y pc al (y5 :: y4 :: y3 :: y2 :: y1 :: Sum.inr (Sum.inr (some r)) :: st) n h 141 = am_cvq (h r) 7 ((st.length ≤ 4 ∧ (am_sl [Sum.inr (Sum.inr (some r)), y1, y2, y3, y4, y5]).length ≤ 11) ∧ n + 0 ≤ lim ∧ call 141 [Sum.inr (Sum.inr (some r)), y1, y2, y3, y4, y5] n h (fun v n' h' => Y (pc + 3) al (am_po v st) n' h')) := by
  show (match h r with | Sum.inl (c', _) => _ | _ => False) = _
  rcases h r with z | z <;> rfl
theorem cq_142 {y1 : am_V} : am_clv lim call Y pc al (y1 :: Sum.inr (Sum.inr (some r)) :: st) n h 142 = am_cvq (h r) 7 ((st.length ≤ 4 ∧ (am_sl [Sum.inr (Sum.inr (some r)), y1]).length ≤ 2) ∧ n + 0 ≤ lim ∧ call 142 [Sum.inr (Sum.inr (some r)), y1] n h (fun v n' h' => Y (pc + 3) al (am_po v st) n' h')) := by
  show (match h r with | Sum.inl (c', _) => _ | _ => False) = _
  rcases h r with z | z <;> rfl
theorem cq_143 {y1 y2 : am_V} : am_clv lim call Y pc al (y2 :: y1 :: Sum.inr (Sum.inr (some r)) :: st) n h 143 = am_cvq (h r) 7 ((st.length ≤ 4 ∧ (am_sl [Sum.inr (Sum.inr (some r)), y1, y2]).length ≤ 3) ∧ n + 0 ≤ lim ∧ call 143 [Sum.inr (Sum.inr (some r)), y1, y2] n h (fun v n' h' => Y (pc + 3) al (am_po v st) n' h')) := by
  show (match h r with | Sum.inl (c', _) => _ | _ => False) = _
  rcases h r with z | z <;> rfl
theorem cq_144 {y1 : am_V} : am_clv lim call Y pc al (y1 :: Sum.inr (Sum.inr (some r)) :: st) n h 144 = am_cvq (h r) 7 ((st.length ≤ 4 ∧ (am_sl [Sum.inr (Sum.inr (some r)), y1]).length ≤ 2) ∧ n + 0 ≤ lim ∧ call 144 [Sum.inr (Sum.inr (some r)), y1] n h (fun v n' h' => Y (pc + 3) al (am_po v st) n' h')) := by
  show (match h r with | Sum.inl (c', _) => _ | _ => False) = _
  rcases h r with z | z <;> rfl
theorem cq_145 : am_clv lim call Y pc al (Sum.inr (Sum.inr (some r)) :: st) n h 145 = am_cvq (h r) 7 ((st.length ≤ 4 ∧ (am_sl [Sum.inr (Sum.inr (some r))]).length ≤ 2) ∧ n + 0 ≤ lim ∧ call 145 [Sum.inr (Sum.inr (some r))] n h (fun v n' h' => Y (pc + 3) al (am_po v st) n' h')) := by
  show (match h r with | Sum.inl (c', _) => _ | _ => False) = _
  rcases h r with z | z <;> rfl
theorem cq_146 {y1 : am_V} : am_clv lim call Y pc al (y1 :: Sum.inr (Sum.inr (some r)) :: st) n h 146 = am_cvq (h r) 7 ((st.length ≤ 4 ∧ (am_sl [Sum.inr (Sum.inr (some r)), y1]).length ≤ 5) ∧ n + 0 ≤ lim ∧ call 146 [Sum.inr (Sum.inr (some r)), y1] n h (fun v n' h' => Y (pc + 3) al (am_po v st) n' h')) := by
  show (match h r with | Sum.inl (c', _) => _ | _ => False) = _
  rcases h r with z | z <;> rfl
theorem cq_147 {y1 : am_V} : am_clv lim call Y pc al (y1 :: Sum.inr (Sum.inr (some r)) :: st) n h 147 = am_cvq (h r) 7 ((st.length ≤ 4 ∧ (am_sl [Sum.inr (Sum.inr (some r)), y1]).length ≤ 5) ∧ n + 0 ≤ lim ∧ call 147 [Sum.inr (Sum.inr (some r)), y1] n h (fun v n' h' => Y (pc + 3) al (am_po v st) n' h')) := by
  show (match h r with | Sum.inl (c', _) => _ | _ => False) = _
  rcases h r with z | z <;> rfl
theorem cq_148 {y0 y1 y2 : am_V} : am_cls lim call Y pc al (y2 :: y1 :: y0 :: st) n h 148 = ((st.length ≤ 4 ∧ (am_sl [y0, y1, y2]).length ≤ 11) ∧ n + 0 ≤ lim ∧ call 148 [y0, y1, y2] n h (fun v n' h' => Y (pc + 3) al (am_po v st) n' h')) := rfl
theorem cq_149 {y1 : am_V} : am_clv lim call Y pc al (y1 :: Sum.inr (Sum.inr (some r)) :: st) n h 149 = am_cvq (h r) 7 ((st.length ≤ 4 ∧ (am_sl [Sum.inr (Sum.inr (some r)), y1]).length ≤ 5) ∧ n + 0 ≤ lim ∧ call 149 [Sum.inr (Sum.inr (some r)), y1] n h (fun v n' h' => Y (pc + 3) al (am_po v st) n' h')) := by
  show (match h r with | Sum.inl (c', _) => _ | _ => False) = _
  rcases h r with z | z <;> rfl
theorem cq_150 {y1 y2 y3 : am_V} : am_clv lim call Y pc al (y3 :: y2 :: y1 :: Sum.inr (Sum.inr (some r)) :: st) n h 150 = am_cvq (h r) 7 ((st.length ≤ 4 ∧ (am_sl [Sum.inr (Sum.inr (some r)), y1, y2, y3]).length ≤ 7) ∧ n + 0 ≤ lim ∧ call 150 [Sum.inr (Sum.inr (some r)), y1, y2, y3] n h (fun v n' h' => Y (pc + 3) al (am_po v st) n' h')) := by
  show (match h r with | Sum.inl (c', _) => _ | _ => False) = _
  rcases h r with z | z <;> rfl
theorem cq_151 {y1 y2 y3 : am_V} : am_clv lim call Y pc al (y3 :: y2 :: y1 :: Sum.inr (Sum.inr (some r)) :: st) n h 151 = am_cvq (h r) 7 ((st.length ≤ 4 ∧ (am_sl [Sum.inr (Sum.inr (some r)), y1, y2, y3]).length ≤ 5) ∧ n + 0 ≤ lim ∧ call 151 [Sum.inr (Sum.inr (some r)), y1, y2, y3] n h (fun v n' h' => Y (pc + 3) al (am_po v st) n' h')) := by
  show (match h r with | Sum.inl (c', _) => _ | _ => False) = _
  rcases h r with z | z <;> rfl
theorem cq_152 {y1 : am_V} : am_clv lim call Y pc al (y1 :: Sum.inr (Sum.inr (some r)) :: st) n h 152 = am_cvq (h r) 7 ((st.length ≤ 4 ∧ (am_sl [Sum.inr (Sum.inr (some r)), y1]).length ≤ 3) ∧ n + 0 ≤ lim ∧ call 152 [Sum.inr (Sum.inr (some r)), y1] n h (fun v n' h' => Y (pc + 3) al (am_po v st) n' h')) := by
  show (match h r with | Sum.inl (c', _) => _ | _ => False) = _
  rcases h r with z | z <;> rfl
theorem cq_153 {y1 y2 y3 : am_V} : am_clv lim call Y pc al (y3 :: y2 :: y1 :: Sum.inr (Sum.inr (some r)) :: st) n h 153 = am_cvq (h r) 7 ((st.length ≤ 4 ∧ (am_sl [Sum.inr (Sum.inr (some r)), y1, y2, y3]).length ≤ 4) ∧ n + 0 ≤ lim ∧ call 153 [Sum.inr (Sum.inr (some r)), y1, y2, y3] n h (fun v n' h' => Y (pc + 3) al (am_po v st) n' h')) := by
  show (match h r with | Sum.inl (c', _) => _ | _ => False) = _
  rcases h r with z | z <;> rfl
theorem cq_154 {y1 y2 y3 : am_V} : am_clv lim call Y pc al (y3 :: y2 :: y1 :: Sum.inr (Sum.inr (some r)) :: st) n h 154 = am_cvq (h r) 7 ((st.length ≤ 4 ∧ (am_sl [Sum.inr (Sum.inr (some r)), y1, y2, y3]).length ≤ 4) ∧ n + 0 ≤ lim ∧ call 154 [Sum.inr (Sum.inr (some r)), y1, y2, y3] n h (fun v n' h' => Y (pc + 3) al (am_po v st) n' h')) := by
  show (match h r with | Sum.inl (c', _) => _ | _ => False) = _
  rcases h r with z | z <;> rfl
theorem cq_155 {y1 y2 y3 y4 y5 : am_V} : am_clv lim call Y pc al (y5 :: y4 :: y3 :: y2 :: y1 :: Sum.inr (Sum.inr (some r)) :: st) n h 155 = am_cvq (h r) 7 ((st.length ≤ 4 ∧ (am_sl [Sum.inr (Sum.inr (some r)), y1, y2, y3, y4, y5]).length ≤ 10) ∧ n + 0 ≤ lim ∧ call 155 [Sum.inr (Sum.inr (some r)), y1, y2, y3, y4, y5] n h (fun v n' h' => Y (pc + 3) al (am_po v st) n' h')) := by
  show (match h r with | Sum.inl (c', _) => _ | _ => False) = _
  rcases h r with z | z <;> rfl
theorem cq_156 {y1 : am_V} : am_clv lim call Y pc al (y1 :: Sum.inr (Sum.inr (some r)) :: st) n h 156 = am_cvq (h r) 7 ((st.length ≤ 4 ∧ (am_sl [Sum.inr (Sum.inr (some r)), y1]).length ≤ 2) ∧ n + 0 ≤ lim ∧ call 156 [Sum.inr (Sum.inr (some r)), y1] n h (fun v n' h' => Y (pc + 3) al (am_po v st) n' h')) := by
  show (match h r with | Sum.inl (c', _) => _ | _ => False) = _
  rcases h r with z | z <;> rfl
theorem cq_157 {y1 : am_V} : am_clv lim call Y pc al (y1 :: Sum.inr (Sum.inr (some r)) :: st) n h 157 = am_cvq (h r) 7 ((st.length ≤ 4 ∧ (am_sl [Sum.inr (Sum.inr (some r)), y1]).length ≤ 3) ∧ n + 0 ≤ lim ∧ call 157 [Sum.inr (Sum.inr (some r)), y1] n h (fun v n' h' => Y (pc + 3) al (am_po v st) n' h')) := by
  show (match h r with | Sum.inl (c', _) => _ | _ => False) = _
  rcases h r with z | z <;> rfl
theorem cq_158 {y1 : am_V} : am_clv lim call Y pc al (y1 :: Sum.inr (Sum.inr (some r)) :: st) n h 158 = am_cvq (h r) 7 ((st.length ≤ 4 ∧ (am_sl [Sum.inr (Sum.inr (some r)), y1]).length ≤ 2) ∧ n + 0 ≤ lim ∧ call 158 [Sum.inr (Sum.inr (some r)), y1] n h (fun v n' h' => Y (pc + 3) al (am_po v st) n' h')) := by
  show (match h r with | Sum.inl (c', _) => _ | _ => False) = _
  rcases h r with z | z <;> rfl
theorem cq_159 {y1 y2 : am_V} : am_clv lim call Y pc al (y2 :: y1 :: Sum.inr (Sum.inr (some r)) :: st) n h 159 = am_cvq (h r) 7 ((st.length ≤ 4 ∧ (am_sl [Sum.inr (Sum.inr (some r)), y1, y2]).length ≤ 3) ∧ n + 0 ≤ lim ∧ call 159 [Sum.inr (Sum.inr (some r)), y1, y2] n h (fun v n' h' => Y (pc + 3) al (am_po v st) n' h')) := by
  show (match h r with | Sum.inl (c', _) => _ | _ => False) = _
  rcases h r with z | z <;> rfl
theorem cq_160 : am_clv lim call Y pc al (Sum.inr (Sum.inr (some r)) :: st) n h 160 = am_cvq (h r) 7 ((st.length ≤ 4 ∧ (am_sl [Sum.inr (Sum.inr (some r))]).length ≤ 1) ∧ n + 0 ≤ lim ∧ call 160 [Sum.inr (Sum.inr (some r))] n h (fun v n' h' => Y (pc + 3) al (am_po v st) n' h')) := by
  show (match h r with | Sum.inl (c', _) => _ | _ => False) = _
  rcases h r with z | z <;> rfl
theorem cq_161 : am_clv lim call Y pc al (Sum.inr (Sum.inr (some r)) :: st) n h 161 = am_cvq (h r) 7 ((st.length ≤ 4 ∧ (am_sl [Sum.inr (Sum.inr (some r))]).length ≤ 1) ∧ n + 0 ≤ lim ∧ call 161 [Sum.inr (Sum.inr (some r))] n h (fun v n' h' => Y (pc + 3) al (am_po v st) n' h')) := by
  show (match h r with | Sum.inl (c', _) => _ | _ => False) = _
  rcases h r with z | z <;> rfl
theorem cq_162 {y1 : am_V} : am_clv lim call Y pc al (y1 :: Sum.inr (Sum.inr (some r)) :: st) n h 162 = am_cvq (h r) 7 ((st.length ≤ 4 ∧ (am_sl [Sum.inr (Sum.inr (some r)), y1]).length ≤ 4) ∧ n + 0 ≤ lim ∧ call 162 [Sum.inr (Sum.inr (some r)), y1] n h (fun v n' h' => Y (pc + 3) al (am_po v st) n' h')) := by
  show (match h r with | Sum.inl (c', _) => _ | _ => False) = _
  rcases h r with z | z <;> rfl
theorem cq_163 {y0 : am_V} : am_cls lim call Y pc al (y0 :: st) n h 163 = ((st.length ≤ 4 ∧ (am_sl [y0]).length ≤ 1) ∧ n + 0 ≤ lim ∧ call 163 [y0] n h (fun v n' h' => Y (pc + 3) al (am_po v st) n' h')) := rfl
theorem cq_164 {y0 y1 : am_V} : am_cls lim call Y pc al (y1 :: y0 :: st) n h 164 = ((st.length ≤ 4 ∧ (am_sl [y0, y1]).length ≤ 2) ∧ n + 0 ≤ lim ∧ call 164 [y0, y1] n h (fun v n' h' => Y (pc + 3) al (am_po v st) n' h')) := rfl
theorem jm_1_11 : am_jmp P 1 11 = P 12 := propext ⟨fun a => a.2, fun a => ⟨by decide, a⟩⟩
theorem jm_1_12 : am_jmp P 1 12 = P 13 := propext ⟨fun a => a.2, fun a => ⟨by decide, a⟩⟩
theorem jm_1_15 : am_jmp P 1 15 = P 16 := propext ⟨fun a => a.2, fun a => ⟨by decide, a⟩⟩
theorem jm_1_29 : am_jmp P 1 29 = P 30 := propext ⟨fun a => a.2, fun a => ⟨by decide, a⟩⟩
theorem jm_1_31 : am_jmp P 1 31 = P 32 := propext ⟨fun a => a.2, fun a => ⟨by decide, a⟩⟩
theorem jm_1_36 : am_jmp P 1 36 = P 37 := propext ⟨fun a => a.2, fun a => ⟨by decide, a⟩⟩
theorem jm_1_39 : am_jmp P 1 39 = P 40 := propext ⟨fun a => a.2, fun a => ⟨by decide, a⟩⟩
theorem jm_1_41 : am_jmp P 1 41 = P 42 := propext ⟨fun a => a.2, fun a => ⟨by decide, a⟩⟩
theorem jm_1_47 : am_jmp P 1 47 = P 48 := propext ⟨fun a => a.2, fun a => ⟨by decide, a⟩⟩
theorem jm_1_55 : am_jmp P 1 55 = P 56 := propext ⟨fun a => a.2, fun a => ⟨by decide, a⟩⟩
theorem jm_1_60 : am_jmp P 1 60 = P 61 := propext ⟨fun a => a.2, fun a => ⟨by decide, a⟩⟩
theorem jm_1_83 : am_jmp P 1 83 = P 84 := propext ⟨fun a => a.2, fun a => ⟨by decide, a⟩⟩
theorem jm_1_88 : am_jmp P 1 88 = P 89 := propext ⟨fun a => a.2, fun a => ⟨by decide, a⟩⟩
theorem jm_2_5 : am_jmp P 2 5 = P 7 := propext ⟨fun a => a.2, fun a => ⟨by decide, a⟩⟩
theorem jm_2_7 : am_jmp P 2 7 = P 9 := propext ⟨fun a => a.2, fun a => ⟨by decide, a⟩⟩
theorem jm_2_12 : am_jmp P 2 12 = P 14 := propext ⟨fun a => a.2, fun a => ⟨by decide, a⟩⟩
theorem jm_2_13 : am_jmp P 2 13 = P 15 := propext ⟨fun a => a.2, fun a => ⟨by decide, a⟩⟩
theorem jm_3_8 : am_jmp P 3 8 = P 11 := propext ⟨fun a => a.2, fun a => ⟨by decide, a⟩⟩
theorem jm_3_13 : am_jmp P 3 13 = P 16 := propext ⟨fun a => a.2, fun a => ⟨by decide, a⟩⟩
theorem jm_3_15 : am_jmp P 3 15 = P 18 := propext ⟨fun a => a.2, fun a => ⟨by decide, a⟩⟩
theorem jm_3_24 : am_jmp P 3 24 = P 27 := propext ⟨fun a => a.2, fun a => ⟨by decide, a⟩⟩
theorem jm_3_32 : am_jmp P 3 32 = P 35 := propext ⟨fun a => a.2, fun a => ⟨by decide, a⟩⟩
theorem jm_4_5 : am_jmp P 4 5 = P 9 := propext ⟨fun a => a.2, fun a => ⟨by decide, a⟩⟩
theorem jm_4_6 : am_jmp P 4 6 = P 10 := propext ⟨fun a => a.2, fun a => ⟨by decide, a⟩⟩
theorem jm_4_15 : am_jmp P 4 15 = P 19 := propext ⟨fun a => a.2, fun a => ⟨by decide, a⟩⟩
theorem jm_4_22 : am_jmp P 4 22 = P 26 := propext ⟨fun a => a.2, fun a => ⟨by decide, a⟩⟩
theorem jm_4_28 : am_jmp P 4 28 = P 32 := propext ⟨fun a => a.2, fun a => ⟨by decide, a⟩⟩
theorem jm_4_31 : am_jmp P 4 31 = P 35 := propext ⟨fun a => a.2, fun a => ⟨by decide, a⟩⟩
theorem jm_4_34 : am_jmp P 4 34 = P 38 := propext ⟨fun a => a.2, fun a => ⟨by decide, a⟩⟩
theorem jm_4_35 : am_jmp P 4 35 = P 39 := propext ⟨fun a => a.2, fun a => ⟨by decide, a⟩⟩
theorem jm_4_39 : am_jmp P 4 39 = P 43 := propext ⟨fun a => a.2, fun a => ⟨by decide, a⟩⟩
theorem jm_4_40 : am_jmp P 4 40 = P 44 := propext ⟨fun a => a.2, fun a => ⟨by decide, a⟩⟩
theorem jm_4_42 : am_jmp P 4 42 = P 46 := propext ⟨fun a => a.2, fun a => ⟨by decide, a⟩⟩
theorem jm_5_5 : am_jmp P 5 5 = P 10 := propext ⟨fun a => a.2, fun a => ⟨by decide, a⟩⟩
theorem jm_5_9 : am_jmp P 5 9 = P 14 := propext ⟨fun a => a.2, fun a => ⟨by decide, a⟩⟩
theorem jm_5_12 : am_jmp P 5 12 = P 17 := propext ⟨fun a => a.2, fun a => ⟨by decide, a⟩⟩
theorem jm_5_15 : am_jmp P 5 15 = P 20 := propext ⟨fun a => a.2, fun a => ⟨by decide, a⟩⟩
theorem jm_5_16 : am_jmp P 5 16 = P 21 := propext ⟨fun a => a.2, fun a => ⟨by decide, a⟩⟩
theorem jm_5_21 : am_jmp P 5 21 = P 26 := propext ⟨fun a => a.2, fun a => ⟨by decide, a⟩⟩
theorem jm_5_26 : am_jmp P 5 26 = P 31 := propext ⟨fun a => a.2, fun a => ⟨by decide, a⟩⟩
theorem jm_5_30 : am_jmp P 5 30 = P 35 := propext ⟨fun a => a.2, fun a => ⟨by decide, a⟩⟩
theorem jm_6_4 : am_jmp P 6 4 = P 10 := propext ⟨fun a => a.2, fun a => ⟨by decide, a⟩⟩
theorem jm_6_5 : am_jmp P 6 5 = P 11 := propext ⟨fun a => a.2, fun a => ⟨by decide, a⟩⟩
theorem jm_6_6 : am_jmp P 6 6 = P 12 := propext ⟨fun a => a.2, fun a => ⟨by decide, a⟩⟩
theorem jm_6_7 : am_jmp P 6 7 = P 13 := propext ⟨fun a => a.2, fun a => ⟨by decide, a⟩⟩
theorem jm_6_8 : am_jmp P 6 8 = P 14 := propext ⟨fun a => a.2, fun a => ⟨by decide, a⟩⟩
theorem jm_6_12 : am_jmp P 6 12 = P 18 := propext ⟨fun a => a.2, fun a => ⟨by decide, a⟩⟩
theorem jm_6_22 : am_jmp P 6 22 = P 28 := propext ⟨fun a => a.2, fun a => ⟨by decide, a⟩⟩
theorem jm_6_31 : am_jmp P 6 31 = P 37 := propext ⟨fun a => a.2, fun a => ⟨by decide, a⟩⟩
theorem jm_6_46 : am_jmp P 6 46 = P 52 := propext ⟨fun a => a.2, fun a => ⟨by decide, a⟩⟩
theorem jm_6_137 : am_jmp P 6 137 = P 143 := propext ⟨fun a => a.2, fun a => ⟨by decide, a⟩⟩
theorem jm_7_5 : am_jmp P 7 5 = P 12 := propext ⟨fun a => a.2, fun a => ⟨by decide, a⟩⟩
theorem jm_7_6 : am_jmp P 7 6 = P 13 := propext ⟨fun a => a.2, fun a => ⟨by decide, a⟩⟩
theorem jm_7_7 : am_jmp P 7 7 = P 14 := propext ⟨fun a => a.2, fun a => ⟨by decide, a⟩⟩
theorem jm_7_12 : am_jmp P 7 12 = P 19 := propext ⟨fun a => a.2, fun a => ⟨by decide, a⟩⟩
theorem jm_7_21 : am_jmp P 7 21 = P 28 := propext ⟨fun a => a.2, fun a => ⟨by decide, a⟩⟩
theorem jm_7_23 : am_jmp P 7 23 = P 30 := propext ⟨fun a => a.2, fun a => ⟨by decide, a⟩⟩
theorem jm_7_36 : am_jmp P 7 36 = P 43 := propext ⟨fun a => a.2, fun a => ⟨by decide, a⟩⟩
theorem jm_7_42 : am_jmp P 7 42 = P 49 := propext ⟨fun a => a.2, fun a => ⟨by decide, a⟩⟩
theorem jm_8_5 : am_jmp P 8 5 = P 13 := propext ⟨fun a => a.2, fun a => ⟨by decide, a⟩⟩
theorem jm_8_7 : am_jmp P 8 7 = P 15 := propext ⟨fun a => a.2, fun a => ⟨by decide, a⟩⟩
theorem jm_8_8 : am_jmp P 8 8 = P 16 := propext ⟨fun a => a.2, fun a => ⟨by decide, a⟩⟩
theorem jm_8_12 : am_jmp P 8 12 = P 20 := propext ⟨fun a => a.2, fun a => ⟨by decide, a⟩⟩
theorem jm_8_15 : am_jmp P 8 15 = P 23 := propext ⟨fun a => a.2, fun a => ⟨by decide, a⟩⟩
theorem jm_8_19 : am_jmp P 8 19 = P 27 := propext ⟨fun a => a.2, fun a => ⟨by decide, a⟩⟩
theorem jm_8_25 : am_jmp P 8 25 = P 33 := propext ⟨fun a => a.2, fun a => ⟨by decide, a⟩⟩
theorem jm_9_5 : am_jmp P 9 5 = P 14 := propext ⟨fun a => a.2, fun a => ⟨by decide, a⟩⟩
theorem jm_9_6 : am_jmp P 9 6 = P 15 := propext ⟨fun a => a.2, fun a => ⟨by decide, a⟩⟩
theorem jm_9_7 : am_jmp P 9 7 = P 16 := propext ⟨fun a => a.2, fun a => ⟨by decide, a⟩⟩
theorem jm_9_10 : am_jmp P 9 10 = P 19 := propext ⟨fun a => a.2, fun a => ⟨by decide, a⟩⟩
theorem jm_9_21 : am_jmp P 9 21 = P 30 := propext ⟨fun a => a.2, fun a => ⟨by decide, a⟩⟩
theorem jm_9_22 : am_jmp P 9 22 = P 31 := propext ⟨fun a => a.2, fun a => ⟨by decide, a⟩⟩
theorem jm_9_29 : am_jmp P 9 29 = P 38 := propext ⟨fun a => a.2, fun a => ⟨by decide, a⟩⟩
theorem jm_9_30 : am_jmp P 9 30 = P 39 := propext ⟨fun a => a.2, fun a => ⟨by decide, a⟩⟩
theorem jm_9_31 : am_jmp P 9 31 = P 40 := propext ⟨fun a => a.2, fun a => ⟨by decide, a⟩⟩
theorem jm_9_45 : am_jmp P 9 45 = P 54 := propext ⟨fun a => a.2, fun a => ⟨by decide, a⟩⟩
theorem jm_9_46 : am_jmp P 9 46 = P 55 := propext ⟨fun a => a.2, fun a => ⟨by decide, a⟩⟩
theorem jm_9_62 : am_jmp P 9 62 = P 71 := propext ⟨fun a => a.2, fun a => ⟨by decide, a⟩⟩
theorem jm_10_4 : am_jmp P 10 4 = P 14 := propext ⟨fun a => a.2, fun a => ⟨by decide, a⟩⟩
theorem jm_10_5 : am_jmp P 10 5 = P 15 := propext ⟨fun a => a.2, fun a => ⟨by decide, a⟩⟩
theorem jm_10_9 : am_jmp P 10 9 = P 19 := propext ⟨fun a => a.2, fun a => ⟨by decide, a⟩⟩
theorem jm_10_21 : am_jmp P 10 21 = P 31 := propext ⟨fun a => a.2, fun a => ⟨by decide, a⟩⟩
theorem jm_10_49 : am_jmp P 10 49 = P 59 := propext ⟨fun a => a.2, fun a => ⟨by decide, a⟩⟩
theorem jm_11_4 : am_jmp P 11 4 = P 15 := propext ⟨fun a => a.2, fun a => ⟨by decide, a⟩⟩
theorem jm_11_12 : am_jmp P 11 12 = P 23 := propext ⟨fun a => a.2, fun a => ⟨by decide, a⟩⟩
theorem jm_11_14 : am_jmp P 11 14 = P 25 := propext ⟨fun a => a.2, fun a => ⟨by decide, a⟩⟩
theorem jm_11_23 : am_jmp P 11 23 = P 34 := propext ⟨fun a => a.2, fun a => ⟨by decide, a⟩⟩
theorem jm_11_34 : am_jmp P 11 34 = P 45 := propext ⟨fun a => a.2, fun a => ⟨by decide, a⟩⟩
theorem jm_11_51 : am_jmp P 11 51 = P 62 := propext ⟨fun a => a.2, fun a => ⟨by decide, a⟩⟩
theorem jm_11_64 : am_jmp P 11 64 = P 75 := propext ⟨fun a => a.2, fun a => ⟨by decide, a⟩⟩
theorem jm_12_4 : am_jmp P 12 4 = P 16 := propext ⟨fun a => a.2, fun a => ⟨by decide, a⟩⟩
theorem jm_12_5 : am_jmp P 12 5 = P 17 := propext ⟨fun a => a.2, fun a => ⟨by decide, a⟩⟩
theorem jm_13_4 : am_jmp P 13 4 = P 17 := propext ⟨fun a => a.2, fun a => ⟨by decide, a⟩⟩
theorem jm_13_9 : am_jmp P 13 9 = P 22 := propext ⟨fun a => a.2, fun a => ⟨by decide, a⟩⟩
theorem jm_13_17 : am_jmp P 13 17 = P 30 := propext ⟨fun a => a.2, fun a => ⟨by decide, a⟩⟩
theorem jm_13_22 : am_jmp P 13 22 = P 35 := propext ⟨fun a => a.2, fun a => ⟨by decide, a⟩⟩
theorem jm_14_4 : am_jmp P 14 4 = P 18 := propext ⟨fun a => a.2, fun a => ⟨by decide, a⟩⟩
theorem jm_14_5 : am_jmp P 14 5 = P 19 := propext ⟨fun a => a.2, fun a => ⟨by decide, a⟩⟩
theorem jm_14_7 : am_jmp P 14 7 = P 21 := propext ⟨fun a => a.2, fun a => ⟨by decide, a⟩⟩
theorem jm_14_11 : am_jmp P 14 11 = P 25 := propext ⟨fun a => a.2, fun a => ⟨by decide, a⟩⟩
theorem jm_14_12 : am_jmp P 14 12 = P 26 := propext ⟨fun a => a.2, fun a => ⟨by decide, a⟩⟩
theorem jm_14_16 : am_jmp P 14 16 = P 30 := propext ⟨fun a => a.2, fun a => ⟨by decide, a⟩⟩
theorem jm_14_23 : am_jmp P 14 23 = P 37 := propext ⟨fun a => a.2, fun a => ⟨by decide, a⟩⟩
theorem jm_14_42 : am_jmp P 14 42 = P 56 := propext ⟨fun a => a.2, fun a => ⟨by decide, a⟩⟩
theorem jm_15_5 : am_jmp P 15 5 = P 20 := propext ⟨fun a => a.2, fun a => ⟨by decide, a⟩⟩
theorem jm_15_16 : am_jmp P 15 16 = P 31 := propext ⟨fun a => a.2, fun a => ⟨by decide, a⟩⟩
theorem jm_15_24 : am_jmp P 15 24 = P 39 := propext ⟨fun a => a.2, fun a => ⟨by decide, a⟩⟩
theorem jm_15_32 : am_jmp P 15 32 = P 47 := propext ⟨fun a => a.2, fun a => ⟨by decide, a⟩⟩
theorem jm_15_47 : am_jmp P 15 47 = P 62 := propext ⟨fun a => a.2, fun a => ⟨by decide, a⟩⟩
theorem jm_15_128 : am_jmp P 15 128 = P 143 := propext ⟨fun a => a.2, fun a => ⟨by decide, a⟩⟩
theorem jm_16_m14 : am_jmp P 16 (-14) = P 2 := propext ⟨fun a => a.2, fun a => ⟨by decide, a⟩⟩
theorem jm_16_5 : am_jmp P 16 5 = P 21 := propext ⟨fun a => a.2, fun a => ⟨by decide, a⟩⟩
theorem jm_16_6 : am_jmp P 16 6 = P 22 := propext ⟨fun a => a.2, fun a => ⟨by decide, a⟩⟩
theorem jm_16_7 : am_jmp P 16 7 = P 23 := propext ⟨fun a => a.2, fun a => ⟨by decide, a⟩⟩
theorem jm_16_11 : am_jmp P 16 11 = P 27 := propext ⟨fun a => a.2, fun a => ⟨by decide, a⟩⟩
theorem jm_16_12 : am_jmp P 16 12 = P 28 := propext ⟨fun a => a.2, fun a => ⟨by decide, a⟩⟩
theorem jm_16_15 : am_jmp P 16 15 = P 31 := propext ⟨fun a => a.2, fun a => ⟨by decide, a⟩⟩
theorem jm_16_16 : am_jmp P 16 16 = P 32 := propext ⟨fun a => a.2, fun a => ⟨by decide, a⟩⟩
theorem jm_16_22 : am_jmp P 16 22 = P 38 := propext ⟨fun a => a.2, fun a => ⟨by decide, a⟩⟩
theorem jm_16_30 : am_jmp P 16 30 = P 46 := propext ⟨fun a => a.2, fun a => ⟨by decide, a⟩⟩
theorem jm_16_32 : am_jmp P 16 32 = P 48 := propext ⟨fun a => a.2, fun a => ⟨by decide, a⟩⟩
theorem jm_16_37 : am_jmp P 16 37 = P 53 := propext ⟨fun a => a.2, fun a => ⟨by decide, a⟩⟩
theorem jm_16_42 : am_jmp P 16 42 = P 58 := propext ⟨fun a => a.2, fun a => ⟨by decide, a⟩⟩
theorem jm_16_47 : am_jmp P 16 47 = P 63 := propext ⟨fun a => a.2, fun a => ⟨by decide, a⟩⟩
theorem jm_16_52 : am_jmp P 16 52 = P 68 := propext ⟨fun a => a.2, fun a => ⟨by decide, a⟩⟩
theorem jm_17_4 : am_jmp P 17 4 = P 21 := propext ⟨fun a => a.2, fun a => ⟨by decide, a⟩⟩
theorem jm_17_5 : am_jmp P 17 5 = P 22 := propext ⟨fun a => a.2, fun a => ⟨by decide, a⟩⟩
theorem jm_17_6 : am_jmp P 17 6 = P 23 := propext ⟨fun a => a.2, fun a => ⟨by decide, a⟩⟩
theorem jm_17_7 : am_jmp P 17 7 = P 24 := propext ⟨fun a => a.2, fun a => ⟨by decide, a⟩⟩
theorem jm_17_48 : am_jmp P 17 48 = P 65 := propext ⟨fun a => a.2, fun a => ⟨by decide, a⟩⟩
theorem jm_18_4 : am_jmp P 18 4 = P 22 := propext ⟨fun a => a.2, fun a => ⟨by decide, a⟩⟩
theorem jm_18_5 : am_jmp P 18 5 = P 23 := propext ⟨fun a => a.2, fun a => ⟨by decide, a⟩⟩
theorem jm_18_6 : am_jmp P 18 6 = P 24 := propext ⟨fun a => a.2, fun a => ⟨by decide, a⟩⟩
theorem jm_18_7 : am_jmp P 18 7 = P 25 := propext ⟨fun a => a.2, fun a => ⟨by decide, a⟩⟩
theorem jm_18_8 : am_jmp P 18 8 = P 26 := propext ⟨fun a => a.2, fun a => ⟨by decide, a⟩⟩
theorem jm_18_9 : am_jmp P 18 9 = P 27 := propext ⟨fun a => a.2, fun a => ⟨by decide, a⟩⟩
theorem jm_18_11 : am_jmp P 18 11 = P 29 := propext ⟨fun a => a.2, fun a => ⟨by decide, a⟩⟩
theorem jm_18_17 : am_jmp P 18 17 = P 35 := propext ⟨fun a => a.2, fun a => ⟨by decide, a⟩⟩
theorem jm_18_36 : am_jmp P 18 36 = P 54 := propext ⟨fun a => a.2, fun a => ⟨by decide, a⟩⟩
theorem jm_19_6 : am_jmp P 19 6 = P 25 := propext ⟨fun a => a.2, fun a => ⟨by decide, a⟩⟩
theorem jm_19_13 : am_jmp P 19 13 = P 32 := propext ⟨fun a => a.2, fun a => ⟨by decide, a⟩⟩
theorem jm_19_14 : am_jmp P 19 14 = P 33 := propext ⟨fun a => a.2, fun a => ⟨by decide, a⟩⟩
theorem jm_19_25 : am_jmp P 19 25 = P 44 := propext ⟨fun a => a.2, fun a => ⟨by decide, a⟩⟩
theorem jm_19_26 : am_jmp P 19 26 = P 45 := propext ⟨fun a => a.2, fun a => ⟨by decide, a⟩⟩
theorem jm_19_30 : am_jmp P 19 30 = P 49 := propext ⟨fun a => a.2, fun a => ⟨by decide, a⟩⟩
theorem jm_19_31 : am_jmp P 19 31 = P 50 := propext ⟨fun a => a.2, fun a => ⟨by decide, a⟩⟩
theorem jm_19_37 : am_jmp P 19 37 = P 56 := propext ⟨fun a => a.2, fun a => ⟨by decide, a⟩⟩
theorem jm_20_4 : am_jmp P 20 4 = P 24 := propext ⟨fun a => a.2, fun a => ⟨by decide, a⟩⟩
theorem jm_20_11 : am_jmp P 20 11 = P 31 := propext ⟨fun a => a.2, fun a => ⟨by decide, a⟩⟩
theorem jm_20_16 : am_jmp P 20 16 = P 36 := propext ⟨fun a => a.2, fun a => ⟨by decide, a⟩⟩
theorem jm_20_17 : am_jmp P 20 17 = P 37 := propext ⟨fun a => a.2, fun a => ⟨by decide, a⟩⟩
theorem jm_20_33 : am_jmp P 20 33 = P 53 := propext ⟨fun a => a.2, fun a => ⟨by decide, a⟩⟩
theorem jm_20_47 : am_jmp P 20 47 = P 67 := propext ⟨fun a => a.2, fun a => ⟨by decide, a⟩⟩
theorem jm_21_4 : am_jmp P 21 4 = P 25 := propext ⟨fun a => a.2, fun a => ⟨by decide, a⟩⟩
theorem jm_21_6 : am_jmp P 21 6 = P 27 := propext ⟨fun a => a.2, fun a => ⟨by decide, a⟩⟩
theorem jm_21_8 : am_jmp P 21 8 = P 29 := propext ⟨fun a => a.2, fun a => ⟨by decide, a⟩⟩
theorem jm_21_14 : am_jmp P 21 14 = P 35 := propext ⟨fun a => a.2, fun a => ⟨by decide, a⟩⟩
theorem jm_21_19 : am_jmp P 21 19 = P 40 := propext ⟨fun a => a.2, fun a => ⟨by decide, a⟩⟩
theorem jm_21_27 : am_jmp P 21 27 = P 48 := propext ⟨fun a => a.2, fun a => ⟨by decide, a⟩⟩
theorem jm_22_4 : am_jmp P 22 4 = P 26 := propext ⟨fun a => a.2, fun a => ⟨by decide, a⟩⟩
theorem jm_22_5 : am_jmp P 22 5 = P 27 := propext ⟨fun a => a.2, fun a => ⟨by decide, a⟩⟩
theorem jm_22_7 : am_jmp P 22 7 = P 29 := propext ⟨fun a => a.2, fun a => ⟨by decide, a⟩⟩
theorem jm_22_8 : am_jmp P 22 8 = P 30 := propext ⟨fun a => a.2, fun a => ⟨by decide, a⟩⟩
theorem jm_22_9 : am_jmp P 22 9 = P 31 := propext ⟨fun a => a.2, fun a => ⟨by decide, a⟩⟩
theorem jm_22_17 : am_jmp P 22 17 = P 39 := propext ⟨fun a => a.2, fun a => ⟨by decide, a⟩⟩
theorem jm_22_163 : am_jmp P 22 163 = P 185 := propext ⟨fun a => a.2, fun a => ⟨by decide, a⟩⟩
theorem jm_23_m21 : am_jmp P 23 (-21) = P 2 := propext ⟨fun a => a.2, fun a => ⟨by decide, a⟩⟩
theorem jm_23_7 : am_jmp P 23 7 = P 30 := propext ⟨fun a => a.2, fun a => ⟨by decide, a⟩⟩
theorem jm_23_13 : am_jmp P 23 13 = P 36 := propext ⟨fun a => a.2, fun a => ⟨by decide, a⟩⟩
theorem jm_23_17 : am_jmp P 23 17 = P 40 := propext ⟨fun a => a.2, fun a => ⟨by decide, a⟩⟩
theorem jm_23_25 : am_jmp P 23 25 = P 48 := propext ⟨fun a => a.2, fun a => ⟨by decide, a⟩⟩
theorem jm_23_40 : am_jmp P 23 40 = P 63 := propext ⟨fun a => a.2, fun a => ⟨by decide, a⟩⟩
theorem jm_23_67 : am_jmp P 23 67 = P 90 := propext ⟨fun a => a.2, fun a => ⟨by decide, a⟩⟩
theorem jm_24_5 : am_jmp P 24 5 = P 29 := propext ⟨fun a => a.2, fun a => ⟨by decide, a⟩⟩
theorem jm_24_6 : am_jmp P 24 6 = P 30 := propext ⟨fun a => a.2, fun a => ⟨by decide, a⟩⟩
theorem jm_24_7 : am_jmp P 24 7 = P 31 := propext ⟨fun a => a.2, fun a => ⟨by decide, a⟩⟩
theorem jm_24_9 : am_jmp P 24 9 = P 33 := propext ⟨fun a => a.2, fun a => ⟨by decide, a⟩⟩
theorem jm_24_19 : am_jmp P 24 19 = P 43 := propext ⟨fun a => a.2, fun a => ⟨by decide, a⟩⟩
theorem jm_24_34 : am_jmp P 24 34 = P 58 := propext ⟨fun a => a.2, fun a => ⟨by decide, a⟩⟩
theorem jm_24_1095 : am_jmp P 24 1095 = P 1119 := propext ⟨fun a => a.2, fun a => ⟨by decide, a⟩⟩
theorem jm_25_m21 : am_jmp P 25 (-21) = P 4 := propext ⟨fun a => a.2, fun a => ⟨by decide, a⟩⟩
theorem jm_25_m20 : am_jmp P 25 (-20) = P 5 := propext ⟨fun a => a.2, fun a => ⟨by decide, a⟩⟩
theorem jm_25_6 : am_jmp P 25 6 = P 31 := propext ⟨fun a => a.2, fun a => ⟨by decide, a⟩⟩
theorem jm_25_7 : am_jmp P 25 7 = P 32 := propext ⟨fun a => a.2, fun a => ⟨by decide, a⟩⟩
theorem jm_25_11 : am_jmp P 25 11 = P 36 := propext ⟨fun a => a.2, fun a => ⟨by decide, a⟩⟩
theorem jm_25_12 : am_jmp P 25 12 = P 37 := propext ⟨fun a => a.2, fun a => ⟨by decide, a⟩⟩
theorem jm_25_14 : am_jmp P 25 14 = P 39 := propext ⟨fun a => a.2, fun a => ⟨by decide, a⟩⟩
theorem jm_25_31 : am_jmp P 25 31 = P 56 := propext ⟨fun a => a.2, fun a => ⟨by decide, a⟩⟩
theorem jm_25_35 : am_jmp P 25 35 = P 60 := propext ⟨fun a => a.2, fun a => ⟨by decide, a⟩⟩
theorem jm_26_5 : am_jmp P 26 5 = P 31 := propext ⟨fun a => a.2, fun a => ⟨by decide, a⟩⟩
theorem jm_26_6 : am_jmp P 26 6 = P 32 := propext ⟨fun a => a.2, fun a => ⟨by decide, a⟩⟩
theorem jm_26_7 : am_jmp P 26 7 = P 33 := propext ⟨fun a => a.2, fun a => ⟨by decide, a⟩⟩
theorem jm_26_12 : am_jmp P 26 12 = P 38 := propext ⟨fun a => a.2, fun a => ⟨by decide, a⟩⟩
theorem jm_26_13 : am_jmp P 26 13 = P 39 := propext ⟨fun a => a.2, fun a => ⟨by decide, a⟩⟩
theorem jm_27_m15 : am_jmp P 27 (-15) = P 12 := propext ⟨fun a => a.2, fun a => ⟨by decide, a⟩⟩
theorem jm_27_4 : am_jmp P 27 4 = P 31 := propext ⟨fun a => a.2, fun a => ⟨by decide, a⟩⟩
theorem jm_27_8 : am_jmp P 27 8 = P 35 := propext ⟨fun a => a.2, fun a => ⟨by decide, a⟩⟩
theorem jm_28_m24 : am_jmp P 28 (-24) = P 4 := propext ⟨fun a => a.2, fun a => ⟨by decide, a⟩⟩
theorem jm_28_m22 : am_jmp P 28 (-22) = P 6 := propext ⟨fun a => a.2, fun a => ⟨by decide, a⟩⟩
theorem jm_28_4 : am_jmp P 28 4 = P 32 := propext ⟨fun a => a.2, fun a => ⟨by decide, a⟩⟩
theorem jm_28_6 : am_jmp P 28 6 = P 34 := propext ⟨fun a => a.2, fun a => ⟨by decide, a⟩⟩
theorem jm_28_7 : am_jmp P 28 7 = P 35 := propext ⟨fun a => a.2, fun a => ⟨by decide, a⟩⟩
theorem jm_28_14 : am_jmp P 28 14 = P 42 := propext ⟨fun a => a.2, fun a => ⟨by decide, a⟩⟩
theorem jm_28_47 : am_jmp P 28 47 = P 75 := propext ⟨fun a => a.2, fun a => ⟨by decide, a⟩⟩
theorem jm_29_5 : am_jmp P 29 5 = P 34 := propext ⟨fun a => a.2, fun a => ⟨by decide, a⟩⟩
theorem jm_29_10 : am_jmp P 29 10 = P 39 := propext ⟨fun a => a.2, fun a => ⟨by decide, a⟩⟩
theorem jm_29_14 : am_jmp P 29 14 = P 43 := propext ⟨fun a => a.2, fun a => ⟨by decide, a⟩⟩
theorem jm_29_16 : am_jmp P 29 16 = P 45 := propext ⟨fun a => a.2, fun a => ⟨by decide, a⟩⟩
theorem jm_29_25 : am_jmp P 29 25 = P 54 := propext ⟨fun a => a.2, fun a => ⟨by decide, a⟩⟩
theorem jm_29_27 : am_jmp P 29 27 = P 56 := propext ⟨fun a => a.2, fun a => ⟨by decide, a⟩⟩
theorem jm_29_48 : am_jmp P 29 48 = P 77 := propext ⟨fun a => a.2, fun a => ⟨by decide, a⟩⟩
theorem jm_29_49 : am_jmp P 29 49 = P 78 := propext ⟨fun a => a.2, fun a => ⟨by decide, a⟩⟩
theorem jm_29_68 : am_jmp P 29 68 = P 97 := propext ⟨fun a => a.2, fun a => ⟨by decide, a⟩⟩
theorem jm_30_5 : am_jmp P 30 5 = P 35 := propext ⟨fun a => a.2, fun a => ⟨by decide, a⟩⟩
theorem jm_30_6 : am_jmp P 30 6 = P 36 := propext ⟨fun a => a.2, fun a => ⟨by decide, a⟩⟩
theorem jm_30_7 : am_jmp P 30 7 = P 37 := propext ⟨fun a => a.2, fun a => ⟨by decide, a⟩⟩
theorem jm_30_10 : am_jmp P 30 10 = P 40 := propext ⟨fun a => a.2, fun a => ⟨by decide, a⟩⟩
theorem jm_30_13 : am_jmp P 30 13 = P 43 := propext ⟨fun a => a.2, fun a => ⟨by decide, a⟩⟩
theorem jm_30_28 : am_jmp P 30 28 = P 58 := propext ⟨fun a => a.2, fun a => ⟨by decide, a⟩⟩
theorem jm_30_35 : am_jmp P 30 35 = P 65 := propext ⟨fun a => a.2, fun a => ⟨by decide, a⟩⟩
theorem jm_30_39 : am_jmp P 30 39 = P 69 := propext ⟨fun a => a.2, fun a => ⟨by decide, a⟩⟩
theorem jm_31_5 : am_jmp P 31 5 = P 36 := propext ⟨fun a => a.2, fun a => ⟨by decide, a⟩⟩
theorem jm_31_6 : am_jmp P 31 6 = P 37 := propext ⟨fun a => a.2, fun a => ⟨by decide, a⟩⟩
theorem jm_31_9 : am_jmp P 31 9 = P 40 := propext ⟨fun a => a.2, fun a => ⟨by decide, a⟩⟩
theorem jm_31_19 : am_jmp P 31 19 = P 50 := propext ⟨fun a => a.2, fun a => ⟨by decide, a⟩⟩
theorem jm_32_4 : am_jmp P 32 4 = P 36 := propext ⟨fun a => a.2, fun a => ⟨by decide, a⟩⟩
theorem jm_32_5 : am_jmp P 32 5 = P 37 := propext ⟨fun a => a.2, fun a => ⟨by decide, a⟩⟩
theorem jm_32_22 : am_jmp P 32 22 = P 54 := propext ⟨fun a => a.2, fun a => ⟨by decide, a⟩⟩
theorem jm_32_33 : am_jmp P 32 33 = P 65 := propext ⟨fun a => a.2, fun a => ⟨by decide, a⟩⟩
theorem jm_33_m16 : am_jmp P 33 (-16) = P 17 := propext ⟨fun a => a.2, fun a => ⟨by decide, a⟩⟩
theorem jm_33_5 : am_jmp P 33 5 = P 38 := propext ⟨fun a => a.2, fun a => ⟨by decide, a⟩⟩
theorem jm_33_10 : am_jmp P 33 10 = P 43 := propext ⟨fun a => a.2, fun a => ⟨by decide, a⟩⟩
theorem jm_33_11 : am_jmp P 33 11 = P 44 := propext ⟨fun a => a.2, fun a => ⟨by decide, a⟩⟩
theorem jm_33_15 : am_jmp P 33 15 = P 48 := propext ⟨fun a => a.2, fun a => ⟨by decide, a⟩⟩
theorem jm_33_131 : am_jmp P 33 131 = P 164 := propext ⟨fun a => a.2, fun a => ⟨by decide, a⟩⟩
theorem jm_33_184 : am_jmp P 33 184 = P 217 := propext ⟨fun a => a.2, fun a => ⟨by decide, a⟩⟩
theorem jm_33_217 : am_jmp P 33 217 = P 250 := propext ⟨fun a => a.2, fun a => ⟨by decide, a⟩⟩
theorem jm_33_240 : am_jmp P 33 240 = P 273 := propext ⟨fun a => a.2, fun a => ⟨by decide, a⟩⟩
theorem jm_33_263 : am_jmp P 33 263 = P 296 := propext ⟨fun a => a.2, fun a => ⟨by decide, a⟩⟩
theorem jm_33_306 : am_jmp P 33 306 = P 339 := propext ⟨fun a => a.2, fun a => ⟨by decide, a⟩⟩
theorem jm_33_319 : am_jmp P 33 319 = P 352 := propext ⟨fun a => a.2, fun a => ⟨by decide, a⟩⟩
theorem jm_33_352 : am_jmp P 33 352 = P 385 := propext ⟨fun a => a.2, fun a => ⟨by decide, a⟩⟩
theorem jm_33_385 : am_jmp P 33 385 = P 418 := propext ⟨fun a => a.2, fun a => ⟨by decide, a⟩⟩
theorem jm_33_418 : am_jmp P 33 418 = P 451 := propext ⟨fun a => a.2, fun a => ⟨by decide, a⟩⟩
theorem jm_33_451 : am_jmp P 33 451 = P 484 := propext ⟨fun a => a.2, fun a => ⟨by decide, a⟩⟩
theorem jm_33_484 : am_jmp P 33 484 = P 517 := propext ⟨fun a => a.2, fun a => ⟨by decide, a⟩⟩
theorem jm_33_527 : am_jmp P 33 527 = P 560 := propext ⟨fun a => a.2, fun a => ⟨by decide, a⟩⟩
theorem jm_33_590 : am_jmp P 33 590 = P 623 := propext ⟨fun a => a.2, fun a => ⟨by decide, a⟩⟩
theorem jm_33_623 : am_jmp P 33 623 = P 656 := propext ⟨fun a => a.2, fun a => ⟨by decide, a⟩⟩
theorem jm_33_646 : am_jmp P 33 646 = P 679 := propext ⟨fun a => a.2, fun a => ⟨by decide, a⟩⟩
theorem jm_33_669 : am_jmp P 33 669 = P 702 := propext ⟨fun a => a.2, fun a => ⟨by decide, a⟩⟩
theorem jm_33_692 : am_jmp P 33 692 = P 725 := propext ⟨fun a => a.2, fun a => ⟨by decide, a⟩⟩
theorem jm_33_736 : am_jmp P 33 736 = P 769 := propext ⟨fun a => a.2, fun a => ⟨by decide, a⟩⟩
theorem jm_33_779 : am_jmp P 33 779 = P 812 := propext ⟨fun a => a.2, fun a => ⟨by decide, a⟩⟩
theorem jm_33_802 : am_jmp P 33 802 = P 835 := propext ⟨fun a => a.2, fun a => ⟨by decide, a⟩⟩
theorem jm_33_845 : am_jmp P 33 845 = P 878 := propext ⟨fun a => a.2, fun a => ⟨by decide, a⟩⟩
theorem jm_33_889 : am_jmp P 33 889 = P 922 := propext ⟨fun a => a.2, fun a => ⟨by decide, a⟩⟩
theorem jm_33_952 : am_jmp P 33 952 = P 985 := propext ⟨fun a => a.2, fun a => ⟨by decide, a⟩⟩
theorem jm_33_975 : am_jmp P 33 975 = P 1008 := propext ⟨fun a => a.2, fun a => ⟨by decide, a⟩⟩
theorem jm_33_998 : am_jmp P 33 998 = P 1031 := propext ⟨fun a => a.2, fun a => ⟨by decide, a⟩⟩
theorem jm_33_1031 : am_jmp P 33 1031 = P 1064 := propext ⟨fun a => a.2, fun a => ⟨by decide, a⟩⟩
theorem jm_33_1044 : am_jmp P 33 1044 = P 1077 := propext ⟨fun a => a.2, fun a => ⟨by decide, a⟩⟩
theorem jm_33_1057 : am_jmp P 33 1057 = P 1090 := propext ⟨fun a => a.2, fun a => ⟨by decide, a⟩⟩
theorem jm_33_1080 : am_jmp P 33 1080 = P 1113 := propext ⟨fun a => a.2, fun a => ⟨by decide, a⟩⟩
theorem jm_34_m30 : am_jmp P 34 (-30) = P 4 := propext ⟨fun a => a.2, fun a => ⟨by decide, a⟩⟩
theorem jm_34_6 : am_jmp P 34 6 = P 40 := propext ⟨fun a => a.2, fun a => ⟨by decide, a⟩⟩
theorem jm_34_7 : am_jmp P 34 7 = P 41 := propext ⟨fun a => a.2, fun a => ⟨by decide, a⟩⟩
theorem jm_34_9 : am_jmp P 34 9 = P 43 := propext ⟨fun a => a.2, fun a => ⟨by decide, a⟩⟩
theorem jm_34_24 : am_jmp P 34 24 = P 58 := propext ⟨fun a => a.2, fun a => ⟨by decide, a⟩⟩
theorem jm_34_25 : am_jmp P 34 25 = P 59 := propext ⟨fun a => a.2, fun a => ⟨by decide, a⟩⟩
theorem jm_34_33 : am_jmp P 34 33 = P 67 := propext ⟨fun a => a.2, fun a => ⟨by decide, a⟩⟩
theorem jm_35_m31 : am_jmp P 35 (-31) = P 4 := propext ⟨fun a => a.2, fun a => ⟨by decide, a⟩⟩
theorem jm_35_m21 : am_jmp P 35 (-21) = P 14 := propext ⟨fun a => a.2, fun a => ⟨by decide, a⟩⟩
theorem jm_36_m34 : am_jmp P 36 (-34) = P 2 := propext ⟨fun a => a.2, fun a => ⟨by decide, a⟩⟩
theorem jm_36_m32 : am_jmp P 36 (-32) = P 4 := propext ⟨fun a => a.2, fun a => ⟨by decide, a⟩⟩
theorem jm_36_m26 : am_jmp P 36 (-26) = P 10 := propext ⟨fun a => a.2, fun a => ⟨by decide, a⟩⟩
theorem jm_36_6 : am_jmp P 36 6 = P 42 := propext ⟨fun a => a.2, fun a => ⟨by decide, a⟩⟩
theorem jm_36_7 : am_jmp P 36 7 = P 43 := propext ⟨fun a => a.2, fun a => ⟨by decide, a⟩⟩
theorem jm_36_8 : am_jmp P 36 8 = P 44 := propext ⟨fun a => a.2, fun a => ⟨by decide, a⟩⟩
theorem jm_36_11 : am_jmp P 36 11 = P 47 := propext ⟨fun a => a.2, fun a => ⟨by decide, a⟩⟩
theorem jm_36_26 : am_jmp P 36 26 = P 62 := propext ⟨fun a => a.2, fun a => ⟨by decide, a⟩⟩
theorem jm_36_32 : am_jmp P 36 32 = P 68 := propext ⟨fun a => a.2, fun a => ⟨by decide, a⟩⟩
theorem jm_36_39 : am_jmp P 36 39 = P 75 := propext ⟨fun a => a.2, fun a => ⟨by decide, a⟩⟩
theorem jm_36_46 : am_jmp P 36 46 = P 82 := propext ⟨fun a => a.2, fun a => ⟨by decide, a⟩⟩
theorem jm_36_52 : am_jmp P 36 52 = P 88 := propext ⟨fun a => a.2, fun a => ⟨by decide, a⟩⟩
theorem jm_36_59 : am_jmp P 36 59 = P 95 := propext ⟨fun a => a.2, fun a => ⟨by decide, a⟩⟩
theorem jm_36_61 : am_jmp P 36 61 = P 97 := propext ⟨fun a => a.2, fun a => ⟨by decide, a⟩⟩
theorem jm_37_m33 : am_jmp P 37 (-33) = P 4 := propext ⟨fun a => a.2, fun a => ⟨by decide, a⟩⟩
theorem jm_37_7 : am_jmp P 37 7 = P 44 := propext ⟨fun a => a.2, fun a => ⟨by decide, a⟩⟩
theorem jm_37_9 : am_jmp P 37 9 = P 46 := propext ⟨fun a => a.2, fun a => ⟨by decide, a⟩⟩
theorem jm_37_10 : am_jmp P 37 10 = P 47 := propext ⟨fun a => a.2, fun a => ⟨by decide, a⟩⟩
theorem jm_37_22 : am_jmp P 37 22 = P 59 := propext ⟨fun a => a.2, fun a => ⟨by decide, a⟩⟩
theorem jm_37_27 : am_jmp P 37 27 = P 64 := propext ⟨fun a => a.2, fun a => ⟨by decide, a⟩⟩
theorem jm_37_28 : am_jmp P 37 28 = P 65 := propext ⟨fun a => a.2, fun a => ⟨by decide, a⟩⟩
theorem jm_37_31 : am_jmp P 37 31 = P 68 := propext ⟨fun a => a.2, fun a => ⟨by decide, a⟩⟩
theorem jm_37_35 : am_jmp P 37 35 = P 72 := propext ⟨fun a => a.2, fun a => ⟨by decide, a⟩⟩
theorem jm_37_36 : am_jmp P 37 36 = P 73 := propext ⟨fun a => a.2, fun a => ⟨by decide, a⟩⟩
theorem jm_37_40 : am_jmp P 37 40 = P 77 := propext ⟨fun a => a.2, fun a => ⟨by decide, a⟩⟩
theorem jm_37_41 : am_jmp P 37 41 = P 78 := propext ⟨fun a => a.2, fun a => ⟨by decide, a⟩⟩
theorem jm_37_43 : am_jmp P 37 43 = P 80 := propext ⟨fun a => a.2, fun a => ⟨by decide, a⟩⟩
theorem jm_37_46 : am_jmp P 37 46 = P 83 := propext ⟨fun a => a.2, fun a => ⟨by decide, a⟩⟩
theorem jm_37_51 : am_jmp P 37 51 = P 88 := propext ⟨fun a => a.2, fun a => ⟨by decide, a⟩⟩
theorem jm_38_5 : am_jmp P 38 5 = P 43 := propext ⟨fun a => a.2, fun a => ⟨by decide, a⟩⟩
theorem jm_38_6 : am_jmp P 38 6 = P 44 := propext ⟨fun a => a.2, fun a => ⟨by decide, a⟩⟩
theorem jm_38_8 : am_jmp P 38 8 = P 46 := propext ⟨fun a => a.2, fun a => ⟨by decide, a⟩⟩
theorem jm_38_39 : am_jmp P 38 39 = P 77 := propext ⟨fun a => a.2, fun a => ⟨by decide, a⟩⟩
theorem jm_39_9 : am_jmp P 39 9 = P 48 := propext ⟨fun a => a.2, fun a => ⟨by decide, a⟩⟩
theorem jm_39_12 : am_jmp P 39 12 = P 51 := propext ⟨fun a => a.2, fun a => ⟨by decide, a⟩⟩
theorem jm_39_15 : am_jmp P 39 15 = P 54 := propext ⟨fun a => a.2, fun a => ⟨by decide, a⟩⟩
theorem jm_39_18 : am_jmp P 39 18 = P 57 := propext ⟨fun a => a.2, fun a => ⟨by decide, a⟩⟩
theorem jm_39_41 : am_jmp P 39 41 = P 80 := propext ⟨fun a => a.2, fun a => ⟨by decide, a⟩⟩
theorem jm_39_146 : am_jmp P 39 146 = P 185 := propext ⟨fun a => a.2, fun a => ⟨by decide, a⟩⟩
theorem jm_40_m38 : am_jmp P 40 (-38) = P 2 := propext ⟨fun a => a.2, fun a => ⟨by decide, a⟩⟩
theorem jm_40_m19 : am_jmp P 40 (-19) = P 21 := propext ⟨fun a => a.2, fun a => ⟨by decide, a⟩⟩
theorem jm_40_6 : am_jmp P 40 6 = P 46 := propext ⟨fun a => a.2, fun a => ⟨by decide, a⟩⟩
theorem jm_40_7 : am_jmp P 40 7 = P 47 := propext ⟨fun a => a.2, fun a => ⟨by decide, a⟩⟩
theorem jm_40_8 : am_jmp P 40 8 = P 48 := propext ⟨fun a => a.2, fun a => ⟨by decide, a⟩⟩
theorem jm_40_9 : am_jmp P 40 9 = P 49 := propext ⟨fun a => a.2, fun a => ⟨by decide, a⟩⟩
theorem jm_40_11 : am_jmp P 40 11 = P 51 := propext ⟨fun a => a.2, fun a => ⟨by decide, a⟩⟩
theorem jm_40_16 : am_jmp P 40 16 = P 56 := propext ⟨fun a => a.2, fun a => ⟨by decide, a⟩⟩
theorem jm_41_m39 : am_jmp P 41 (-39) = P 2 := propext ⟨fun a => a.2, fun a => ⟨by decide, a⟩⟩
theorem jm_41_4 : am_jmp P 41 4 = P 45 := propext ⟨fun a => a.2, fun a => ⟨by decide, a⟩⟩
theorem jm_41_5 : am_jmp P 41 5 = P 46 := propext ⟨fun a => a.2, fun a => ⟨by decide, a⟩⟩
theorem jm_41_9 : am_jmp P 41 9 = P 50 := propext ⟨fun a => a.2, fun a => ⟨by decide, a⟩⟩
theorem jm_41_10 : am_jmp P 41 10 = P 51 := propext ⟨fun a => a.2, fun a => ⟨by decide, a⟩⟩
theorem jm_41_61 : am_jmp P 41 61 = P 102 := propext ⟨fun a => a.2, fun a => ⟨by decide, a⟩⟩
theorem jm_42_m37 : am_jmp P 42 (-37) = P 5 := propext ⟨fun a => a.2, fun a => ⟨by decide, a⟩⟩
theorem jm_42_4 : am_jmp P 42 4 = P 46 := propext ⟨fun a => a.2, fun a => ⟨by decide, a⟩⟩
theorem jm_42_10 : am_jmp P 42 10 = P 52 := propext ⟨fun a => a.2, fun a => ⟨by decide, a⟩⟩
theorem jm_42_30 : am_jmp P 42 30 = P 72 := propext ⟨fun a => a.2, fun a => ⟨by decide, a⟩⟩
theorem jm_42_175 : am_jmp P 42 175 = P 217 := propext ⟨fun a => a.2, fun a => ⟨by decide, a⟩⟩
theorem jm_43_6 : am_jmp P 43 6 = P 49 := propext ⟨fun a => a.2, fun a => ⟨by decide, a⟩⟩
theorem jm_43_9 : am_jmp P 43 9 = P 52 := propext ⟨fun a => a.2, fun a => ⟨by decide, a⟩⟩
theorem jm_43_18 : am_jmp P 43 18 = P 61 := propext ⟨fun a => a.2, fun a => ⟨by decide, a⟩⟩
theorem jm_43_25 : am_jmp P 43 25 = P 68 := propext ⟨fun a => a.2, fun a => ⟨by decide, a⟩⟩
theorem jm_43_40 : am_jmp P 43 40 = P 83 := propext ⟨fun a => a.2, fun a => ⟨by decide, a⟩⟩
theorem jm_43_79 : am_jmp P 43 79 = P 122 := propext ⟨fun a => a.2, fun a => ⟨by decide, a⟩⟩
theorem jm_44_9 : am_jmp P 44 9 = P 53 := propext ⟨fun a => a.2, fun a => ⟨by decide, a⟩⟩
theorem jm_44_15 : am_jmp P 44 15 = P 59 := propext ⟨fun a => a.2, fun a => ⟨by decide, a⟩⟩
theorem jm_44_21 : am_jmp P 44 21 = P 65 := propext ⟨fun a => a.2, fun a => ⟨by decide, a⟩⟩
theorem jm_44_26 : am_jmp P 44 26 = P 70 := propext ⟨fun a => a.2, fun a => ⟨by decide, a⟩⟩
theorem jm_45_5 : am_jmp P 45 5 = P 50 := propext ⟨fun a => a.2, fun a => ⟨by decide, a⟩⟩
theorem jm_45_6 : am_jmp P 45 6 = P 51 := propext ⟨fun a => a.2, fun a => ⟨by decide, a⟩⟩
theorem jm_45_10 : am_jmp P 45 10 = P 55 := propext ⟨fun a => a.2, fun a => ⟨by decide, a⟩⟩
theorem jm_45_13 : am_jmp P 45 13 = P 58 := propext ⟨fun a => a.2, fun a => ⟨by decide, a⟩⟩
theorem jm_45_16 : am_jmp P 45 16 = P 61 := propext ⟨fun a => a.2, fun a => ⟨by decide, a⟩⟩
theorem jm_45_58 : am_jmp P 45 58 = P 103 := propext ⟨fun a => a.2, fun a => ⟨by decide, a⟩⟩
theorem jm_46_m44 : am_jmp P 46 (-44) = P 2 := propext ⟨fun a => a.2, fun a => ⟨by decide, a⟩⟩
theorem jm_46_8 : am_jmp P 46 8 = P 54 := propext ⟨fun a => a.2, fun a => ⟨by decide, a⟩⟩
theorem jm_46_14 : am_jmp P 46 14 = P 60 := propext ⟨fun a => a.2, fun a => ⟨by decide, a⟩⟩
theorem jm_47_15 : am_jmp P 47 15 = P 62 := propext ⟨fun a => a.2, fun a => ⟨by decide, a⟩⟩
theorem jm_48_4 : am_jmp P 48 4 = P 52 := propext ⟨fun a => a.2, fun a => ⟨by decide, a⟩⟩
theorem jm_48_6 : am_jmp P 48 6 = P 54 := propext ⟨fun a => a.2, fun a => ⟨by decide, a⟩⟩
theorem jm_48_19 : am_jmp P 48 19 = P 67 := propext ⟨fun a => a.2, fun a => ⟨by decide, a⟩⟩
theorem jm_48_34 : am_jmp P 48 34 = P 82 := propext ⟨fun a => a.2, fun a => ⟨by decide, a⟩⟩
theorem jm_49_m46 : am_jmp P 49 (-46) = P 3 := propext ⟨fun a => a.2, fun a => ⟨by decide, a⟩⟩
theorem jm_49_m45 : am_jmp P 49 (-45) = P 4 := propext ⟨fun a => a.2, fun a => ⟨by decide, a⟩⟩
theorem jm_49_19 : am_jmp P 49 19 = P 68 := propext ⟨fun a => a.2, fun a => ⟨by decide, a⟩⟩
theorem jm_50_7 : am_jmp P 50 7 = P 57 := propext ⟨fun a => a.2, fun a => ⟨by decide, a⟩⟩
theorem jm_50_10 : am_jmp P 50 10 = P 60 := propext ⟨fun a => a.2, fun a => ⟨by decide, a⟩⟩
theorem jm_51_m47 : am_jmp P 51 (-47) = P 4 := propext ⟨fun a => a.2, fun a => ⟨by decide, a⟩⟩
theorem jm_51_m21 : am_jmp P 51 (-21) = P 30 := propext ⟨fun a => a.2, fun a => ⟨by decide, a⟩⟩
theorem jm_51_4 : am_jmp P 51 4 = P 55 := propext ⟨fun a => a.2, fun a => ⟨by decide, a⟩⟩
theorem jm_51_6 : am_jmp P 51 6 = P 57 := propext ⟨fun a => a.2, fun a => ⟨by decide, a⟩⟩
theorem jm_51_7 : am_jmp P 51 7 = P 58 := propext ⟨fun a => a.2, fun a => ⟨by decide, a⟩⟩
theorem jm_52_m48 : am_jmp P 52 (-48) = P 4 := propext ⟨fun a => a.2, fun a => ⟨by decide, a⟩⟩
theorem jm_52_7 : am_jmp P 52 7 = P 59 := propext ⟨fun a => a.2, fun a => ⟨by decide, a⟩⟩
theorem jm_52_86 : am_jmp P 52 86 = P 138 := propext ⟨fun a => a.2, fun a => ⟨by decide, a⟩⟩
theorem jm_53_5 : am_jmp P 53 5 = P 58 := propext ⟨fun a => a.2, fun a => ⟨by decide, a⟩⟩
theorem jm_53_12 : am_jmp P 53 12 = P 65 := propext ⟨fun a => a.2, fun a => ⟨by decide, a⟩⟩
theorem jm_53_17 : am_jmp P 53 17 = P 70 := propext ⟨fun a => a.2, fun a => ⟨by decide, a⟩⟩
theorem jm_54_5 : am_jmp P 54 5 = P 59 := propext ⟨fun a => a.2, fun a => ⟨by decide, a⟩⟩
theorem jm_54_7 : am_jmp P 54 7 = P 61 := propext ⟨fun a => a.2, fun a => ⟨by decide, a⟩⟩
theorem jm_54_9 : am_jmp P 54 9 = P 63 := propext ⟨fun a => a.2, fun a => ⟨by decide, a⟩⟩
theorem jm_54_10 : am_jmp P 54 10 = P 64 := propext ⟨fun a => a.2, fun a => ⟨by decide, a⟩⟩
theorem jm_54_16 : am_jmp P 54 16 = P 70 := propext ⟨fun a => a.2, fun a => ⟨by decide, a⟩⟩
theorem jm_54_41 : am_jmp P 54 41 = P 95 := propext ⟨fun a => a.2, fun a => ⟨by decide, a⟩⟩
theorem jm_55_6 : am_jmp P 55 6 = P 61 := propext ⟨fun a => a.2, fun a => ⟨by decide, a⟩⟩
theorem jm_55_8 : am_jmp P 55 8 = P 63 := propext ⟨fun a => a.2, fun a => ⟨by decide, a⟩⟩
theorem jm_55_11 : am_jmp P 55 11 = P 66 := propext ⟨fun a => a.2, fun a => ⟨by decide, a⟩⟩
theorem jm_55_27 : am_jmp P 55 27 = P 82 := propext ⟨fun a => a.2, fun a => ⟨by decide, a⟩⟩
theorem jm_56_m51 : am_jmp P 56 (-51) = P 5 := propext ⟨fun a => a.2, fun a => ⟨by decide, a⟩⟩
theorem jm_56_13 : am_jmp P 56 13 = P 69 := propext ⟨fun a => a.2, fun a => ⟨by decide, a⟩⟩
theorem jm_56_15 : am_jmp P 56 15 = P 71 := propext ⟨fun a => a.2, fun a => ⟨by decide, a⟩⟩
theorem jm_56_19 : am_jmp P 56 19 = P 75 := propext ⟨fun a => a.2, fun a => ⟨by decide, a⟩⟩
theorem jm_56_28 : am_jmp P 56 28 = P 84 := propext ⟨fun a => a.2, fun a => ⟨by decide, a⟩⟩
theorem jm_57_m35 : am_jmp P 57 (-35) = P 22 := propext ⟨fun a => a.2, fun a => ⟨by decide, a⟩⟩
theorem jm_57_15 : am_jmp P 57 15 = P 72 := propext ⟨fun a => a.2, fun a => ⟨by decide, a⟩⟩
theorem jm_57_19 : am_jmp P 57 19 = P 76 := propext ⟨fun a => a.2, fun a => ⟨by decide, a⟩⟩
theorem jm_57_45 : am_jmp P 57 45 = P 102 := propext ⟨fun a => a.2, fun a => ⟨by decide, a⟩⟩
theorem jm_58_4 : am_jmp P 58 4 = P 62 := propext ⟨fun a => a.2, fun a => ⟨by decide, a⟩⟩
theorem jm_58_9 : am_jmp P 58 9 = P 67 := propext ⟨fun a => a.2, fun a => ⟨by decide, a⟩⟩
theorem jm_59_5 : am_jmp P 59 5 = P 64 := propext ⟨fun a => a.2, fun a => ⟨by decide, a⟩⟩
theorem jm_59_8 : am_jmp P 59 8 = P 67 := propext ⟨fun a => a.2, fun a => ⟨by decide, a⟩⟩
theorem jm_59_15 : am_jmp P 59 15 = P 74 := propext ⟨fun a => a.2, fun a => ⟨by decide, a⟩⟩
theorem jm_59_18 : am_jmp P 59 18 = P 77 := propext ⟨fun a => a.2, fun a => ⟨by decide, a⟩⟩
theorem jm_59_22 : am_jmp P 59 22 = P 81 := propext ⟨fun a => a.2, fun a => ⟨by decide, a⟩⟩
theorem jm_59_39 : am_jmp P 59 39 = P 98 := propext ⟨fun a => a.2, fun a => ⟨by decide, a⟩⟩
theorem jm_61_7 : am_jmp P 61 7 = P 68 := propext ⟨fun a => a.2, fun a => ⟨by decide, a⟩⟩
theorem jm_61_9 : am_jmp P 61 9 = P 70 := propext ⟨fun a => a.2, fun a => ⟨by decide, a⟩⟩
theorem jm_61_22 : am_jmp P 61 22 = P 83 := propext ⟨fun a => a.2, fun a => ⟨by decide, a⟩⟩
theorem jm_62_m20 : am_jmp P 62 (-20) = P 42 := propext ⟨fun a => a.2, fun a => ⟨by decide, a⟩⟩
theorem jm_62_5 : am_jmp P 62 5 = P 67 := propext ⟨fun a => a.2, fun a => ⟨by decide, a⟩⟩
theorem jm_62_10 : am_jmp P 62 10 = P 72 := propext ⟨fun a => a.2, fun a => ⟨by decide, a⟩⟩
theorem jm_63_8 : am_jmp P 63 8 = P 71 := propext ⟨fun a => a.2, fun a => ⟨by decide, a⟩⟩
theorem jm_63_9 : am_jmp P 63 9 = P 72 := propext ⟨fun a => a.2, fun a => ⟨by decide, a⟩⟩
theorem jm_64_6 : am_jmp P 64 6 = P 70 := propext ⟨fun a => a.2, fun a => ⟨by decide, a⟩⟩
theorem jm_64_10 : am_jmp P 64 10 = P 74 := propext ⟨fun a => a.2, fun a => ⟨by decide, a⟩⟩
theorem jm_65_21 : am_jmp P 65 21 = P 86 := propext ⟨fun a => a.2, fun a => ⟨by decide, a⟩⟩
theorem jm_65_43 : am_jmp P 65 43 = P 108 := propext ⟨fun a => a.2, fun a => ⟨by decide, a⟩⟩
theorem jm_66_m38 : am_jmp P 66 (-38) = P 28 := propext ⟨fun a => a.2, fun a => ⟨by decide, a⟩⟩
theorem jm_66_6 : am_jmp P 66 6 = P 72 := propext ⟨fun a => a.2, fun a => ⟨by decide, a⟩⟩
theorem jm_66_7 : am_jmp P 66 7 = P 73 := propext ⟨fun a => a.2, fun a => ⟨by decide, a⟩⟩
theorem jm_66_17 : am_jmp P 66 17 = P 83 := propext ⟨fun a => a.2, fun a => ⟨by decide, a⟩⟩
theorem jm_67_7 : am_jmp P 67 7 = P 74 := propext ⟨fun a => a.2, fun a => ⟨by decide, a⟩⟩
theorem jm_67_8 : am_jmp P 67 8 = P 75 := propext ⟨fun a => a.2, fun a => ⟨by decide, a⟩⟩
theorem jm_68_m64 : am_jmp P 68 (-64) = P 4 := propext ⟨fun a => a.2, fun a => ⟨by decide, a⟩⟩
theorem jm_68_5 : am_jmp P 68 5 = P 73 := propext ⟨fun a => a.2, fun a => ⟨by decide, a⟩⟩
theorem jm_68_55 : am_jmp P 68 55 = P 123 := propext ⟨fun a => a.2, fun a => ⟨by decide, a⟩⟩
theorem jm_69_7 : am_jmp P 69 7 = P 76 := propext ⟨fun a => a.2, fun a => ⟨by decide, a⟩⟩
theorem jm_69_8 : am_jmp P 69 8 = P 77 := propext ⟨fun a => a.2, fun a => ⟨by decide, a⟩⟩
theorem jm_70_4 : am_jmp P 70 4 = P 74 := propext ⟨fun a => a.2, fun a => ⟨by decide, a⟩⟩
theorem jm_70_14 : am_jmp P 70 14 = P 84 := propext ⟨fun a => a.2, fun a => ⟨by decide, a⟩⟩
theorem jm_70_26 : am_jmp P 70 26 = P 96 := propext ⟨fun a => a.2, fun a => ⟨by decide, a⟩⟩
theorem jm_70_34 : am_jmp P 70 34 = P 104 := propext ⟨fun a => a.2, fun a => ⟨by decide, a⟩⟩
theorem jm_70_42 : am_jmp P 70 42 = P 112 := propext ⟨fun a => a.2, fun a => ⟨by decide, a⟩⟩
theorem jm_71_4 : am_jmp P 71 4 = P 75 := propext ⟨fun a => a.2, fun a => ⟨by decide, a⟩⟩
theorem jm_71_19 : am_jmp P 71 19 = P 90 := propext ⟨fun a => a.2, fun a => ⟨by decide, a⟩⟩
theorem jm_71_38 : am_jmp P 71 38 = P 109 := propext ⟨fun a => a.2, fun a => ⟨by decide, a⟩⟩
theorem jm_72_10 : am_jmp P 72 10 = P 82 := propext ⟨fun a => a.2, fun a => ⟨by decide, a⟩⟩
theorem jm_72_12 : am_jmp P 72 12 = P 84 := propext ⟨fun a => a.2, fun a => ⟨by decide, a⟩⟩
theorem jm_73_35 : am_jmp P 73 35 = P 108 := propext ⟨fun a => a.2, fun a => ⟨by decide, a⟩⟩
theorem jm_73_40 : am_jmp P 73 40 = P 113 := propext ⟨fun a => a.2, fun a => ⟨by decide, a⟩⟩
theorem jm_73_45 : am_jmp P 73 45 = P 118 := propext ⟨fun a => a.2, fun a => ⟨by decide, a⟩⟩
theorem jm_73_54 : am_jmp P 73 54 = P 127 := propext ⟨fun a => a.2, fun a => ⟨by decide, a⟩⟩
theorem jm_73_59 : am_jmp P 73 59 = P 132 := propext ⟨fun a => a.2, fun a => ⟨by decide, a⟩⟩
theorem jm_73_65 : am_jmp P 73 65 = P 138 := propext ⟨fun a => a.2, fun a => ⟨by decide, a⟩⟩
theorem jm_74_m57 : am_jmp P 74 (-57) = P 17 := propext ⟨fun a => a.2, fun a => ⟨by decide, a⟩⟩
theorem jm_74_15 : am_jmp P 74 15 = P 89 := propext ⟨fun a => a.2, fun a => ⟨by decide, a⟩⟩
theorem jm_74_19 : am_jmp P 74 19 = P 93 := propext ⟨fun a => a.2, fun a => ⟨by decide, a⟩⟩
theorem jm_75_m51 : am_jmp P 75 (-51) = P 24 := propext ⟨fun a => a.2, fun a => ⟨by decide, a⟩⟩
theorem jm_75_5 : am_jmp P 75 5 = P 80 := propext ⟨fun a => a.2, fun a => ⟨by decide, a⟩⟩
theorem jm_75_10 : am_jmp P 75 10 = P 85 := propext ⟨fun a => a.2, fun a => ⟨by decide, a⟩⟩
theorem jm_76_33 : am_jmp P 76 33 = P 109 := propext ⟨fun a => a.2, fun a => ⟨by decide, a⟩⟩
theorem jm_77_m41 : am_jmp P 77 (-41) = P 36 := propext ⟨fun a => a.2, fun a => ⟨by decide, a⟩⟩
theorem jm_78_m22 : am_jmp P 78 (-22) = P 56 := propext ⟨fun a => a.2, fun a => ⟨by decide, a⟩⟩
theorem jm_78_11 : am_jmp P 78 11 = P 89 := propext ⟨fun a => a.2, fun a => ⟨by decide, a⟩⟩
theorem jm_78_39 : am_jmp P 78 39 = P 117 := propext ⟨fun a => a.2, fun a => ⟨by decide, a⟩⟩
theorem jm_79_m33 : am_jmp P 79 (-33) = P 46 := propext ⟨fun a => a.2, fun a => ⟨by decide, a⟩⟩
theorem jm_80_m23 : am_jmp P 80 (-23) = P 57 := propext ⟨fun a => a.2, fun a => ⟨by decide, a⟩⟩
theorem jm_80_8 : am_jmp P 80 8 = P 88 := propext ⟨fun a => a.2, fun a => ⟨by decide, a⟩⟩
theorem jm_80_9 : am_jmp P 80 9 = P 89 := propext ⟨fun a => a.2, fun a => ⟨by decide, a⟩⟩
theorem jm_80_12 : am_jmp P 80 12 = P 92 := propext ⟨fun a => a.2, fun a => ⟨by decide, a⟩⟩
theorem jm_80_15 : am_jmp P 80 15 = P 95 := propext ⟨fun a => a.2, fun a => ⟨by decide, a⟩⟩
theorem jm_80_57 : am_jmp P 80 57 = P 137 := propext ⟨fun a => a.2, fun a => ⟨by decide, a⟩⟩
theorem jm_81_28 : am_jmp P 81 28 = P 109 := propext ⟨fun a => a.2, fun a => ⟨by decide, a⟩⟩
theorem jm_82_7 : am_jmp P 82 7 = P 89 := propext ⟨fun a => a.2, fun a => ⟨by decide, a⟩⟩
theorem jm_83_m21 : am_jmp P 83 (-21) = P 62 := propext ⟨fun a => a.2, fun a => ⟨by decide, a⟩⟩
theorem jm_84_6 : am_jmp P 84 6 = P 90 := propext ⟨fun a => a.2, fun a => ⟨by decide, a⟩⟩
theorem jm_84_7 : am_jmp P 84 7 = P 91 := propext ⟨fun a => a.2, fun a => ⟨by decide, a⟩⟩
theorem jm_84_8 : am_jmp P 84 8 = P 92 := propext ⟨fun a => a.2, fun a => ⟨by decide, a⟩⟩
theorem jm_85_16 : am_jmp P 85 16 = P 101 := propext ⟨fun a => a.2, fun a => ⟨by decide, a⟩⟩
theorem jm_85_39 : am_jmp P 85 39 = P 124 := propext ⟨fun a => a.2, fun a => ⟨by decide, a⟩⟩
theorem jm_85_50 : am_jmp P 85 50 = P 135 := propext ⟨fun a => a.2, fun a => ⟨by decide, a⟩⟩
theorem jm_85_69 : am_jmp P 85 69 = P 154 := propext ⟨fun a => a.2, fun a => ⟨by decide, a⟩⟩
theorem jm_85_87 : am_jmp P 85 87 = P 172 := propext ⟨fun a => a.2, fun a => ⟨by decide, a⟩⟩
theorem jm_85_98 : am_jmp P 85 98 = P 183 := propext ⟨fun a => a.2, fun a => ⟨by decide, a⟩⟩
theorem jm_85_104 : am_jmp P 85 104 = P 189 := propext ⟨fun a => a.2, fun a => ⟨by decide, a⟩⟩
theorem jm_85_110 : am_jmp P 85 110 = P 195 := propext ⟨fun a => a.2, fun a => ⟨by decide, a⟩⟩
theorem jm_86_4 : am_jmp P 86 4 = P 90 := propext ⟨fun a => a.2, fun a => ⟨by decide, a⟩⟩
theorem jm_86_6 : am_jmp P 86 6 = P 92 := propext ⟨fun a => a.2, fun a => ⟨by decide, a⟩⟩
theorem jm_86_8 : am_jmp P 86 8 = P 94 := propext ⟨fun a => a.2, fun a => ⟨by decide, a⟩⟩
theorem jm_86_31 : am_jmp P 86 31 = P 117 := propext ⟨fun a => a.2, fun a => ⟨by decide, a⟩⟩
theorem jm_86_99 : am_jmp P 86 99 = P 185 := propext ⟨fun a => a.2, fun a => ⟨by decide, a⟩⟩
theorem jm_88_4 : am_jmp P 88 4 = P 92 := propext ⟨fun a => a.2, fun a => ⟨by decide, a⟩⟩
theorem jm_89_4 : am_jmp P 89 4 = P 93 := propext ⟨fun a => a.2, fun a => ⟨by decide, a⟩⟩
theorem jm_89_22 : am_jmp P 89 22 = P 111 := propext ⟨fun a => a.2, fun a => ⟨by decide, a⟩⟩
theorem jm_89_122 : am_jmp P 89 122 = P 211 := propext ⟨fun a => a.2, fun a => ⟨by decide, a⟩⟩
theorem jm_90_12 : am_jmp P 90 12 = P 102 := propext ⟨fun a => a.2, fun a => ⟨by decide, a⟩⟩
theorem jm_91_18 : am_jmp P 91 18 = P 109 := propext ⟨fun a => a.2, fun a => ⟨by decide, a⟩⟩
theorem jm_92_m43 : am_jmp P 92 (-43) = P 49 := propext ⟨fun a => a.2, fun a => ⟨by decide, a⟩⟩
theorem jm_92_9 : am_jmp P 92 9 = P 101 := propext ⟨fun a => a.2, fun a => ⟨by decide, a⟩⟩
theorem jm_92_10 : am_jmp P 92 10 = P 102 := propext ⟨fun a => a.2, fun a => ⟨by decide, a⟩⟩
theorem jm_94_m70 : am_jmp P 94 (-70) = P 24 := propext ⟨fun a => a.2, fun a => ⟨by decide, a⟩⟩
theorem jm_94_7 : am_jmp P 94 7 = P 101 := propext ⟨fun a => a.2, fun a => ⟨by decide, a⟩⟩
theorem jm_94_23 : am_jmp P 94 23 = P 117 := propext ⟨fun a => a.2, fun a => ⟨by decide, a⟩⟩
theorem jm_95_m41 : am_jmp P 95 (-41) = P 54 := propext ⟨fun a => a.2, fun a => ⟨by decide, a⟩⟩
theorem jm_95_56 : am_jmp P 95 56 = P 151 := propext ⟨fun a => a.2, fun a => ⟨by decide, a⟩⟩
theorem jm_96_89 : am_jmp P 96 89 = P 185 := propext ⟨fun a => a.2, fun a => ⟨by decide, a⟩⟩
theorem jm_98_m15 : am_jmp P 98 (-15) = P 83 := propext ⟨fun a => a.2, fun a => ⟨by decide, a⟩⟩
theorem jm_98_4 : am_jmp P 98 4 = P 102 := propext ⟨fun a => a.2, fun a => ⟨by decide, a⟩⟩
theorem jm_99_m61 : am_jmp P 99 (-61) = P 38 := propext ⟨fun a => a.2, fun a => ⟨by decide, a⟩⟩
theorem jm_99_9 : am_jmp P 99 9 = P 108 := propext ⟨fun a => a.2, fun a => ⟨by decide, a⟩⟩
theorem jm_101_51 : am_jmp P 101 51 = P 152 := propext ⟨fun a => a.2, fun a => ⟨by decide, a⟩⟩
theorem jm_102_7 : am_jmp P 102 7 = P 109 := propext ⟨fun a => a.2, fun a => ⟨by decide, a⟩⟩
theorem jm_103_13 : am_jmp P 103 13 = P 116 := propext ⟨fun a => a.2, fun a => ⟨by decide, a⟩⟩
theorem jm_104_44 : am_jmp P 104 44 = P 148 := propext ⟨fun a => a.2, fun a => ⟨by decide, a⟩⟩
theorem jm_105_5 : am_jmp P 105 5 = P 110 := propext ⟨fun a => a.2, fun a => ⟨by decide, a⟩⟩
theorem jm_106_4 : am_jmp P 106 4 = P 110 := propext ⟨fun a => a.2, fun a => ⟨by decide, a⟩⟩
theorem jm_107_44 : am_jmp P 107 44 = P 151 := propext ⟨fun a => a.2, fun a => ⟨by decide, a⟩⟩
theorem jm_108_m25 : am_jmp P 108 (-25) = P 83 := propext ⟨fun a => a.2, fun a => ⟨by decide, a⟩⟩
theorem jm_109_6 : am_jmp P 109 6 = P 115 := propext ⟨fun a => a.2, fun a => ⟨by decide, a⟩⟩
theorem jm_110_10 : am_jmp P 110 10 = P 120 := propext ⟨fun a => a.2, fun a => ⟨by decide, a⟩⟩
theorem jm_110_33 : am_jmp P 110 33 = P 143 := propext ⟨fun a => a.2, fun a => ⟨by decide, a⟩⟩
theorem jm_111_9 : am_jmp P 111 9 = P 120 := propext ⟨fun a => a.2, fun a => ⟨by decide, a⟩⟩
theorem jm_113_5 : am_jmp P 113 5 = P 118 := propext ⟨fun a => a.2, fun a => ⟨by decide, a⟩⟩
theorem jm_114_m40 : am_jmp P 114 (-40) = P 74 := propext ⟨fun a => a.2, fun a => ⟨by decide, a⟩⟩
theorem jm_114_30 : am_jmp P 114 30 = P 144 := propext ⟨fun a => a.2, fun a => ⟨by decide, a⟩⟩
theorem jm_116_12 : am_jmp P 116 12 = P 128 := propext ⟨fun a => a.2, fun a => ⟨by decide, a⟩⟩
theorem jm_117_5 : am_jmp P 117 5 = P 122 := propext ⟨fun a => a.2, fun a => ⟨by decide, a⟩⟩
theorem jm_119_18 : am_jmp P 119 18 = P 137 := propext ⟨fun a => a.2, fun a => ⟨by decide, a⟩⟩
theorem jm_120_m55 : am_jmp P 120 (-55) = P 65 := propext ⟨fun a => a.2, fun a => ⟨by decide, a⟩⟩
theorem jm_121_68 : am_jmp P 121 68 = P 189 := propext ⟨fun a => a.2, fun a => ⟨by decide, a⟩⟩
theorem jm_123_6 : am_jmp P 123 6 = P 129 := propext ⟨fun a => a.2, fun a => ⟨by decide, a⟩⟩
theorem jm_124_6 : am_jmp P 124 6 = P 130 := propext ⟨fun a => a.2, fun a => ⟨by decide, a⟩⟩
theorem jm_124_8 : am_jmp P 124 8 = P 132 := propext ⟨fun a => a.2, fun a => ⟨by decide, a⟩⟩
theorem jm_124_9 : am_jmp P 124 9 = P 133 := propext ⟨fun a => a.2, fun a => ⟨by decide, a⟩⟩
theorem jm_125_9 : am_jmp P 125 9 = P 134 := propext ⟨fun a => a.2, fun a => ⟨by decide, a⟩⟩
theorem jm_127_17 : am_jmp P 127 17 = P 144 := propext ⟨fun a => a.2, fun a => ⟨by decide, a⟩⟩
theorem jm_129_5 : am_jmp P 129 5 = P 134 := propext ⟨fun a => a.2, fun a => ⟨by decide, a⟩⟩
theorem jm_130_6 : am_jmp P 130 6 = P 136 := propext ⟨fun a => a.2, fun a => ⟨by decide, a⟩⟩
theorem jm_131_5 : am_jmp P 131 5 = P 136 := propext ⟨fun a => a.2, fun a => ⟨by decide, a⟩⟩
theorem jm_134_7 : am_jmp P 134 7 = P 141 := propext ⟨fun a => a.2, fun a => ⟨by decide, a⟩⟩
theorem jm_135_22 : am_jmp P 135 22 = P 157 := propext ⟨fun a => a.2, fun a => ⟨by decide, a⟩⟩
theorem jm_135_50 : am_jmp P 135 50 = P 185 := propext ⟨fun a => a.2, fun a => ⟨by decide, a⟩⟩
theorem jm_138_4 : am_jmp P 138 4 = P 142 := propext ⟨fun a => a.2, fun a => ⟨by decide, a⟩⟩
theorem jm_139_6 : am_jmp P 139 6 = P 145 := propext ⟨fun a => a.2, fun a => ⟨by decide, a⟩⟩
theorem jm_140_m137 : am_jmp P 140 (-137) = P 3 := propext ⟨fun a => a.2, fun a => ⟨by decide, a⟩⟩
theorem jm_141_9 : am_jmp P 141 9 = P 150 := propext ⟨fun a => a.2, fun a => ⟨by decide, a⟩⟩
theorem jm_142_25 : am_jmp P 142 25 = P 167 := propext ⟨fun a => a.2, fun a => ⟨by decide, a⟩⟩
theorem jm_143_6 : am_jmp P 143 6 = P 149 := propext ⟨fun a => a.2, fun a => ⟨by decide, a⟩⟩
theorem jm_145_m44 : am_jmp P 145 (-44) = P 101 := propext ⟨fun a => a.2, fun a => ⟨by decide, a⟩⟩
theorem jm_146_7 : am_jmp P 146 7 = P 153 := propext ⟨fun a => a.2, fun a => ⟨by decide, a⟩⟩
theorem jm_148_m45 : am_jmp P 148 (-45) = P 103 := propext ⟨fun a => a.2, fun a => ⟨by decide, a⟩⟩
theorem jm_148_63 : am_jmp P 148 63 = P 211 := propext ⟨fun a => a.2, fun a => ⟨by decide, a⟩⟩
theorem jm_149_m54 : am_jmp P 149 (-54) = P 95 := propext ⟨fun a => a.2, fun a => ⟨by decide, a⟩⟩
theorem jm_150_22 : am_jmp P 150 22 = P 172 := propext ⟨fun a => a.2, fun a => ⟨by decide, a⟩⟩
theorem jm_152_5 : am_jmp P 152 5 = P 157 := propext ⟨fun a => a.2, fun a => ⟨by decide, a⟩⟩
theorem jm_153_7 : am_jmp P 153 7 = P 160 := propext ⟨fun a => a.2, fun a => ⟨by decide, a⟩⟩
theorem jm_153_10 : am_jmp P 153 10 = P 163 := propext ⟨fun a => a.2, fun a => ⟨by decide, a⟩⟩
theorem jm_154_6 : am_jmp P 154 6 = P 160 := propext ⟨fun a => a.2, fun a => ⟨by decide, a⟩⟩
theorem jm_154_18 : am_jmp P 154 18 = P 172 := propext ⟨fun a => a.2, fun a => ⟨by decide, a⟩⟩
theorem jm_154_57 : am_jmp P 154 57 = P 211 := propext ⟨fun a => a.2, fun a => ⟨by decide, a⟩⟩
theorem jm_155_57 : am_jmp P 155 57 = P 212 := propext ⟨fun a => a.2, fun a => ⟨by decide, a⟩⟩
theorem jm_156_5 : am_jmp P 156 5 = P 161 := propext ⟨fun a => a.2, fun a => ⟨by decide, a⟩⟩
theorem jm_157_4 : am_jmp P 157 4 = P 161 := propext ⟨fun a => a.2, fun a => ⟨by decide, a⟩⟩
theorem jm_157_39 : am_jmp P 157 39 = P 196 := propext ⟨fun a => a.2, fun a => ⟨by decide, a⟩⟩
theorem jm_159_23 : am_jmp P 159 23 = P 182 := propext ⟨fun a => a.2, fun a => ⟨by decide, a⟩⟩
theorem jm_160_20 : am_jmp P 160 20 = P 180 := propext ⟨fun a => a.2, fun a => ⟨by decide, a⟩⟩
theorem jm_160_24 : am_jmp P 160 24 = P 184 := propext ⟨fun a => a.2, fun a => ⟨by decide, a⟩⟩
theorem jm_164_m25 : am_jmp P 164 (-25) = P 139 := propext ⟨fun a => a.2, fun a => ⟨by decide, a⟩⟩
theorem jm_164_7 : am_jmp P 164 7 = P 171 := propext ⟨fun a => a.2, fun a => ⟨by decide, a⟩⟩
theorem jm_164_12 : am_jmp P 164 12 = P 176 := propext ⟨fun a => a.2, fun a => ⟨by decide, a⟩⟩
theorem jm_166_12 : am_jmp P 166 12 = P 178 := propext ⟨fun a => a.2, fun a => ⟨by decide, a⟩⟩
theorem jm_167_13 : am_jmp P 167 13 = P 180 := propext ⟨fun a => a.2, fun a => ⟨by decide, a⟩⟩
theorem jm_168_4 : am_jmp P 168 4 = P 172 := propext ⟨fun a => a.2, fun a => ⟨by decide, a⟩⟩
theorem jm_170_57 : am_jmp P 170 57 = P 227 := propext ⟨fun a => a.2, fun a => ⟨by decide, a⟩⟩
theorem jm_172_22 : am_jmp P 172 22 = P 194 := propext ⟨fun a => a.2, fun a => ⟨by decide, a⟩⟩
theorem jm_173_8 : am_jmp P 173 8 = P 181 := propext ⟨fun a => a.2, fun a => ⟨by decide, a⟩⟩
theorem jm_174_7 : am_jmp P 174 7 = P 181 := propext ⟨fun a => a.2, fun a => ⟨by decide, a⟩⟩
theorem jm_175_9 : am_jmp P 175 9 = P 184 := propext ⟨fun a => a.2, fun a => ⟨by decide, a⟩⟩
theorem jm_175_13 : am_jmp P 175 13 = P 188 := propext ⟨fun a => a.2, fun a => ⟨by decide, a⟩⟩
theorem jm_178_10 : am_jmp P 178 10 = P 188 := propext ⟨fun a => a.2, fun a => ⟨by decide, a⟩⟩
theorem jm_179_m24 : am_jmp P 179 (-24) = P 155 := propext ⟨fun a => a.2, fun a => ⟨by decide, a⟩⟩
theorem jm_185_5 : am_jmp P 185 5 = P 190 := propext ⟨fun a => a.2, fun a => ⟨by decide, a⟩⟩
theorem jm_186_m69 : am_jmp P 186 (-69) = P 117 := propext ⟨fun a => a.2, fun a => ⟨by decide, a⟩⟩
theorem jm_189_23 : am_jmp P 189 23 = P 212 := propext ⟨fun a => a.2, fun a => ⟨by decide, a⟩⟩
theorem jm_193_m39 : am_jmp P 193 (-39) = P 154 := propext ⟨fun a => a.2, fun a => ⟨by decide, a⟩⟩
theorem jm_201_5 : am_jmp P 201 5 = P 206 := propext ⟨fun a => a.2, fun a => ⟨by decide, a⟩⟩
theorem jm_208_9 : am_jmp P 208 9 = P 217 := propext ⟨fun a => a.2, fun a => ⟨by decide, a⟩⟩
theorem jm_209_m56 : am_jmp P 209 (-56) = P 153 := propext ⟨fun a => a.2, fun a => ⟨by decide, a⟩⟩
theorem jm_209_m24 : am_jmp P 209 (-24) = P 185 := propext ⟨fun a => a.2, fun a => ⟨by decide, a⟩⟩
theorem jm_212_901 : am_jmp P 212 901 = P 1113 := propext ⟨fun a => a.2, fun a => ⟨by decide, a⟩⟩
theorem jm_214_m177 : am_jmp P 214 (-177) = P 37 := propext ⟨fun a => a.2, fun a => ⟨by decide, a⟩⟩
theorem jm_214_6 : am_jmp P 214 6 = P 220 := propext ⟨fun a => a.2, fun a => ⟨by decide, a⟩⟩
theorem jm_224_m58 : am_jmp P 224 (-58) = P 166 := propext ⟨fun a => a.2, fun a => ⟨by decide, a⟩⟩
theorem jm_228_17 : am_jmp P 228 17 = P 245 := propext ⟨fun a => a.2, fun a => ⟨by decide, a⟩⟩
theorem jm_231_39 : am_jmp P 231 39 = P 270 := propext ⟨fun a => a.2, fun a => ⟨by decide, a⟩⟩
theorem jm_242_m17 : am_jmp P 242 (-17) = P 225 := propext ⟨fun a => a.2, fun a => ⟨by decide, a⟩⟩
theorem jm_245_868 : am_jmp P 245 868 = P 1113 := propext ⟨fun a => a.2, fun a => ⟨by decide, a⟩⟩
theorem jm_267_m39 : am_jmp P 267 (-39) = P 228 := propext ⟨fun a => a.2, fun a => ⟨by decide, a⟩⟩
theorem jm_268_845 : am_jmp P 268 845 = P 1113 := propext ⟨fun a => a.2, fun a => ⟨by decide, a⟩⟩
theorem jm_284_8 : am_jmp P 284 8 = P 292 := propext ⟨fun a => a.2, fun a => ⟨by decide, a⟩⟩
theorem jm_289_20 : am_jmp P 289 20 = P 309 := propext ⟨fun a => a.2, fun a => ⟨by decide, a⟩⟩
theorem jm_291_822 : am_jmp P 291 822 = P 1113 := propext ⟨fun a => a.2, fun a => ⟨by decide, a⟩⟩
theorem jm_296_8 : am_jmp P 296 8 = P 304 := propext ⟨fun a => a.2, fun a => ⟨by decide, a⟩⟩
theorem jm_301_8 : am_jmp P 301 8 = P 309 := propext ⟨fun a => a.2, fun a => ⟨by decide, a⟩⟩
theorem jm_334_779 : am_jmp P 334 779 = P 1113 := propext ⟨fun a => a.2, fun a => ⟨by decide, a⟩⟩
theorem jm_347_766 : am_jmp P 347 766 = P 1113 := propext ⟨fun a => a.2, fun a => ⟨by decide, a⟩⟩
theorem jm_380_733 : am_jmp P 380 733 = P 1113 := propext ⟨fun a => a.2, fun a => ⟨by decide, a⟩⟩
theorem jm_413_700 : am_jmp P 413 700 = P 1113 := propext ⟨fun a => a.2, fun a => ⟨by decide, a⟩⟩
theorem jm_446_667 : am_jmp P 446 667 = P 1113 := propext ⟨fun a => a.2, fun a => ⟨by decide, a⟩⟩
theorem jm_479_634 : am_jmp P 479 634 = P 1113 := propext ⟨fun a => a.2, fun a => ⟨by decide, a⟩⟩
theorem jm_512_601 : am_jmp P 512 601 = P 1113 := propext ⟨fun a => a.2, fun a => ⟨by decide, a⟩⟩
theorem jm_555_558 : am_jmp P 555 558 = P 1113 := propext ⟨fun a => a.2, fun a => ⟨by decide, a⟩⟩
theorem jm_618_495 : am_jmp P 618 495 = P 1113 := propext ⟨fun a => a.2, fun a => ⟨by decide, a⟩⟩
theorem jm_651_462 : am_jmp P 651 462 = P 1113 := propext ⟨fun a => a.2, fun a => ⟨by decide, a⟩⟩
theorem jm_674_439 : am_jmp P 674 439 = P 1113 := propext ⟨fun a => a.2, fun a => ⟨by decide, a⟩⟩
theorem jm_697_416 : am_jmp P 697 416 = P 1113 := propext ⟨fun a => a.2, fun a => ⟨by decide, a⟩⟩
theorem jm_720_393 : am_jmp P 720 393 = P 1113 := propext ⟨fun a => a.2, fun a => ⟨by decide, a⟩⟩
theorem jm_764_349 : am_jmp P 764 349 = P 1113 := propext ⟨fun a => a.2, fun a => ⟨by decide, a⟩⟩
theorem jm_807_306 : am_jmp P 807 306 = P 1113 := propext ⟨fun a => a.2, fun a => ⟨by decide, a⟩⟩
theorem jm_830_283 : am_jmp P 830 283 = P 1113 := propext ⟨fun a => a.2, fun a => ⟨by decide, a⟩⟩
theorem jm_873_240 : am_jmp P 873 240 = P 1113 := propext ⟨fun a => a.2, fun a => ⟨by decide, a⟩⟩
theorem jm_917_196 : am_jmp P 917 196 = P 1113 := propext ⟨fun a => a.2, fun a => ⟨by decide, a⟩⟩
theorem jm_980_133 : am_jmp P 980 133 = P 1113 := propext ⟨fun a => a.2, fun a => ⟨by decide, a⟩⟩
theorem jm_1003_110 : am_jmp P 1003 110 = P 1113 := propext ⟨fun a => a.2, fun a => ⟨by decide, a⟩⟩
theorem jm_1026_87 : am_jmp P 1026 87 = P 1113 := propext ⟨fun a => a.2, fun a => ⟨by decide, a⟩⟩
theorem jm_1059_54 : am_jmp P 1059 54 = P 1113 := propext ⟨fun a => a.2, fun a => ⟨by decide, a⟩⟩
theorem jm_1072_41 : am_jmp P 1072 41 = P 1113 := propext ⟨fun a => a.2, fun a => ⟨by decide, a⟩⟩
theorem jm_1085_28 : am_jmp P 1085 28 = P 1113 := propext ⟨fun a => a.2, fun a => ⟨by decide, a⟩⟩
theorem jm_1108_5 : am_jmp P 1108 5 = P 1113 := propext ⟨fun a => a.2, fun a => ⟨by decide, a⟩⟩
theorem jm_1116_m1098 : am_jmp P 1116 (-1098) = P 18 := propext ⟨fun a => a.2, fun a => ⟨by decide, a⟩⟩
end
theorem ow_0 : am_own 0 = 0 := rfl
theorem rt_0 : am_rt 0 = 0 := rfl
theorem in_0 : am_ini 0 = true := rfl
theorem ow_1 : am_own 1 = 0 := rfl
theorem rt_1 : am_rt 1 = 2 := rfl
theorem in_1 : am_ini 1 = false := rfl
theorem ow_2 : am_own 2 = 0 := rfl
theorem rt_2 : am_rt 2 = 0 := rfl
theorem in_2 : am_ini 2 = false := rfl
theorem ow_3 : am_own 3 = 1 := rfl
theorem rt_3 : am_rt 3 = 0 := rfl
theorem in_3 : am_ini 3 = true := rfl
theorem ow_4 : am_own 4 = 1 := rfl
theorem rt_4 : am_rt 4 = 0 := rfl
theorem in_4 : am_ini 4 = false := rfl
theorem ow_5 : am_own 5 = 1 := rfl
theorem rt_5 : am_rt 5 = 0 := rfl
theorem in_5 : am_ini 5 = false := rfl
theorem ow_6 : am_own 6 = 1 := rfl
theorem rt_6 : am_rt 6 = 0 := rfl
theorem in_6 : am_ini 6 = false := rfl
theorem ow_7 : am_own 7 = 1 := rfl
theorem rt_7 : am_rt 7 = 0 := rfl
theorem in_7 : am_ini 7 = false := rfl
theorem ow_8 : am_own 8 = 1 := rfl
theorem rt_8 : am_rt 8 = 2 := rfl
theorem in_8 : am_ini 8 = false := rfl
theorem ow_9 : am_own 9 = 1 := rfl
theorem rt_9 : am_rt 9 = 2 := rfl
theorem in_9 : am_ini 9 = false := rfl
theorem ow_10 : am_own 10 = 1 := rfl
theorem rt_10 : am_rt 10 = 2 := rfl
theorem in_10 : am_ini 10 = false := rfl
theorem ow_11 : am_own 11 = 1 := rfl
theorem rt_11 : am_rt 11 = 2 := rfl
theorem in_11 : am_ini 11 = false := rfl
theorem ow_12 : am_own 12 = 1 := rfl
theorem rt_12 : am_rt 12 = 2 := rfl
theorem in_12 : am_ini 12 = false := rfl
theorem ow_13 : am_own 13 = 1 := rfl
theorem rt_13 : am_rt 13 = 2 := rfl
theorem in_13 : am_ini 13 = false := rfl
theorem ow_14 : am_own 14 = 1 := rfl
theorem rt_14 : am_rt 14 = 2 := rfl
theorem in_14 : am_ini 14 = false := rfl
theorem ow_15 : am_own 15 = 1 := rfl
theorem rt_15 : am_rt 15 = 2 := rfl
theorem in_15 : am_ini 15 = false := rfl
theorem ow_16 : am_own 16 = 2 := rfl
theorem rt_16 : am_rt 16 = 0 := rfl
theorem in_16 : am_ini 16 = true := rfl
theorem ow_17 : am_own 17 = 2 := rfl
theorem rt_17 : am_rt 17 = 0 := rfl
theorem in_17 : am_ini 17 = false := rfl
theorem ow_18 : am_own 18 = 2 := rfl
theorem rt_18 : am_rt 18 = 1 := rfl
theorem in_18 : am_ini 18 = false := rfl
theorem ow_19 : am_own 19 = 2 := rfl
theorem rt_19 : am_rt 19 = 2 := rfl
theorem in_19 : am_ini 19 = false := rfl
theorem ow_20 : am_own 20 = 2 := rfl
theorem rt_20 : am_rt 20 = 1 := rfl
theorem in_20 : am_ini 20 = false := rfl
theorem ow_21 : am_own 21 = 2 := rfl
theorem rt_21 : am_rt 21 = 1 := rfl
theorem in_21 : am_ini 21 = false := rfl
theorem ow_22 : am_own 22 = 2 := rfl
theorem rt_22 : am_rt 22 = 2 := rfl
theorem in_22 : am_ini 22 = false := rfl
theorem ow_23 : am_own 23 = 11 := rfl
theorem rt_23 : am_rt 23 = 2 := rfl
theorem in_23 : am_ini 23 = false := rfl
theorem ow_24 : am_own 24 = 11 := rfl
theorem rt_24 : am_rt 24 = 2 := rfl
theorem in_24 : am_ini 24 = false := rfl
theorem ow_25 : am_own 25 = 11 := rfl
theorem rt_25 : am_rt 25 = 2 := rfl
theorem in_25 : am_ini 25 = false := rfl
theorem ow_26 : am_own 26 = 11 := rfl
theorem rt_26 : am_rt 26 = 2 := rfl
theorem in_26 : am_ini 26 = false := rfl
theorem ow_27 : am_own 27 = 11 := rfl
theorem rt_27 : am_rt 27 = 2 := rfl
theorem in_27 : am_ini 27 = false := rfl
theorem ow_28 : am_own 28 = 3 := rfl
theorem rt_28 : am_rt 28 = 0 := rfl
theorem in_28 : am_ini 28 = true := rfl
theorem ow_29 : am_own 29 = 3 := rfl
theorem rt_29 : am_rt 29 = 0 := rfl
theorem in_29 : am_ini 29 = false := rfl
theorem ow_30 : am_own 30 = 4 := rfl
theorem rt_30 : am_rt 30 = 0 := rfl
theorem in_30 : am_ini 30 = true := rfl
theorem ow_31 : am_own 31 = 4 := rfl
theorem rt_31 : am_rt 31 = 2 := rfl
theorem in_31 : am_ini 31 = false := rfl
theorem ow_32 : am_own 32 = 4 := rfl
theorem rt_32 : am_rt 32 = 1 := rfl
theorem in_32 : am_ini 32 = false := rfl
theorem ow_33 : am_own 33 = 4 := rfl
theorem rt_33 : am_rt 33 = 2 := rfl
theorem in_33 : am_ini 33 = false := rfl
theorem ow_34 : am_own 34 = 4 := rfl
theorem rt_34 : am_rt 34 = 1 := rfl
theorem in_34 : am_ini 34 = false := rfl
theorem ow_35 : am_own 35 = 4 := rfl
theorem rt_35 : am_rt 35 = 2 := rfl
theorem in_35 : am_ini 35 = false := rfl
theorem ow_36 : am_own 36 = 4 := rfl
theorem rt_36 : am_rt 36 = 1 := rfl
theorem in_36 : am_ini 36 = false := rfl
theorem ow_37 : am_own 37 = 4 := rfl
theorem rt_37 : am_rt 37 = 2 := rfl
theorem in_37 : am_ini 37 = false := rfl
theorem ow_38 : am_own 38 = 4 := rfl
theorem rt_38 : am_rt 38 = 2 := rfl
theorem in_38 : am_ini 38 = false := rfl
theorem ow_39 : am_own 39 = 4 := rfl
theorem rt_39 : am_rt 39 = 1 := rfl
theorem in_39 : am_ini 39 = false := rfl
theorem ow_40 : am_own 40 = 5 := rfl
theorem rt_40 : am_rt 40 = 0 := rfl
theorem in_40 : am_ini 40 = true := rfl
theorem ow_41 : am_own 41 = 5 := rfl
theorem rt_41 : am_rt 41 = 0 := rfl
theorem in_41 : am_ini 41 = false := rfl
theorem ow_42 : am_own 42 = 5 := rfl
theorem rt_42 : am_rt 42 = 0 := rfl
theorem in_42 : am_ini 42 = false := rfl
theorem ow_43 : am_own 43 = 5 := rfl
theorem rt_43 : am_rt 43 = 4 := rfl
theorem in_43 : am_ini 43 = false := rfl
theorem ow_44 : am_own 44 = 5 := rfl
theorem rt_44 : am_rt 44 = 4 := rfl
theorem in_44 : am_ini 44 = false := rfl
theorem ow_45 : am_own 45 = 5 := rfl
theorem rt_45 : am_rt 45 = 2 := rfl
theorem in_45 : am_ini 45 = false := rfl
theorem ow_46 : am_own 46 = 5 := rfl
theorem rt_46 : am_rt 46 = 1 := rfl
theorem in_46 : am_ini 46 = false := rfl
theorem ow_47 : am_own 47 = 5 := rfl
theorem rt_47 : am_rt 47 = 1 := rfl
theorem in_47 : am_ini 47 = false := rfl
theorem ow_48 : am_own 48 = 5 := rfl
theorem rt_48 : am_rt 48 = 2 := rfl
theorem in_48 : am_ini 48 = false := rfl
theorem ow_49 : am_own 49 = 5 := rfl
theorem rt_49 : am_rt 49 = 2 := rfl
theorem in_49 : am_ini 49 = false := rfl
theorem ow_50 : am_own 50 = 5 := rfl
theorem rt_50 : am_rt 50 = 2 := rfl
theorem in_50 : am_ini 50 = false := rfl
theorem ow_51 : am_own 51 = 5 := rfl
theorem rt_51 : am_rt 51 = 2 := rfl
theorem in_51 : am_ini 51 = false := rfl
theorem ow_52 : am_own 52 = 6 := rfl
theorem rt_52 : am_rt 52 = 0 := rfl
theorem in_52 : am_ini 52 = true := rfl
theorem ow_53 : am_own 53 = 6 := rfl
theorem rt_53 : am_rt 53 = 2 := rfl
theorem in_53 : am_ini 53 = false := rfl
theorem ow_54 : am_own 54 = 6 := rfl
theorem rt_54 : am_rt 54 = 2 := rfl
theorem in_54 : am_ini 54 = false := rfl
theorem ow_55 : am_own 55 = 6 := rfl
theorem rt_55 : am_rt 55 = 2 := rfl
theorem in_55 : am_ini 55 = false := rfl
theorem ow_56 : am_own 56 = 6 := rfl
theorem rt_56 : am_rt 56 = 2 := rfl
theorem in_56 : am_ini 56 = false := rfl
theorem ow_57 : am_own 57 = 6 := rfl
theorem rt_57 : am_rt 57 = 2 := rfl
theorem in_57 : am_ini 57 = false := rfl
theorem ow_58 : am_own 58 = 6 := rfl
theorem rt_58 : am_rt 58 = 2 := rfl
theorem in_58 : am_ini 58 = false := rfl
theorem ow_59 : am_own 59 = 6 := rfl
theorem rt_59 : am_rt 59 = 2 := rfl
theorem in_59 : am_ini 59 = false := rfl
theorem ow_60 : am_own 60 = 6 := rfl
theorem rt_60 : am_rt 60 = 2 := rfl
theorem in_60 : am_ini 60 = false := rfl
theorem ow_61 : am_own 61 = 6 := rfl
theorem rt_61 : am_rt 61 = 2 := rfl
theorem in_61 : am_ini 61 = false := rfl
theorem ow_62 : am_own 62 = 6 := rfl
theorem rt_62 : am_rt 62 = 2 := rfl
theorem in_62 : am_ini 62 = false := rfl
theorem ow_63 : am_own 63 = 6 := rfl
theorem rt_63 : am_rt 63 = 2 := rfl
theorem in_63 : am_ini 63 = false := rfl
theorem ow_64 : am_own 64 = 6 := rfl
theorem rt_64 : am_rt 64 = 2 := rfl
theorem in_64 : am_ini 64 = false := rfl
theorem ow_65 : am_own 65 = 6 := rfl
theorem rt_65 : am_rt 65 = 2 := rfl
theorem in_65 : am_ini 65 = false := rfl
theorem ow_66 : am_own 66 = 6 := rfl
theorem rt_66 : am_rt 66 = 2 := rfl
theorem in_66 : am_ini 66 = false := rfl
theorem ow_67 : am_own 67 = 6 := rfl
theorem rt_67 : am_rt 67 = 2 := rfl
theorem in_67 : am_ini 67 = false := rfl
theorem ow_68 : am_own 68 = 6 := rfl
theorem rt_68 : am_rt 68 = 2 := rfl
theorem in_68 : am_ini 68 = false := rfl
theorem ow_69 : am_own 69 = 6 := rfl
theorem rt_69 : am_rt 69 = 2 := rfl
theorem in_69 : am_ini 69 = false := rfl
theorem ow_70 : am_own 70 = 6 := rfl
theorem rt_70 : am_rt 70 = 3 := rfl
theorem in_70 : am_ini 70 = false := rfl
theorem ow_71 : am_own 71 = 6 := rfl
theorem rt_71 : am_rt 71 = 2 := rfl
theorem in_71 : am_ini 71 = false := rfl
theorem ow_72 : am_own 72 = 6 := rfl
theorem rt_72 : am_rt 72 = 2 := rfl
theorem in_72 : am_ini 72 = false := rfl
theorem ow_73 : am_own 73 = 6 := rfl
theorem rt_73 : am_rt 73 = 2 := rfl
theorem in_73 : am_ini 73 = false := rfl
theorem ow_74 : am_own 74 = 6 := rfl
theorem rt_74 : am_rt 74 = 3 := rfl
theorem in_74 : am_ini 74 = false := rfl
theorem ow_75 : am_own 75 = 6 := rfl
theorem rt_75 : am_rt 75 = 2 := rfl
theorem in_75 : am_ini 75 = false := rfl
theorem ow_76 : am_own 76 = 6 := rfl
theorem rt_76 : am_rt 76 = 2 := rfl
theorem in_76 : am_ini 76 = false := rfl
theorem ow_77 : am_own 77 = 6 := rfl
theorem rt_77 : am_rt 77 = 2 := rfl
theorem in_77 : am_ini 77 = false := rfl
theorem ow_78 : am_own 78 = 6 := rfl
theorem rt_78 : am_rt 78 = 2 := rfl
theorem in_78 : am_ini 78 = false := rfl
theorem ow_79 : am_own 79 = 6 := rfl
theorem rt_79 : am_rt 79 = 2 := rfl
theorem in_79 : am_ini 79 = false := rfl
theorem ow_80 : am_own 80 = 6 := rfl
theorem rt_80 : am_rt 80 = 2 := rfl
theorem in_80 : am_ini 80 = false := rfl
theorem ow_81 : am_own 81 = 6 := rfl
theorem rt_81 : am_rt 81 = 2 := rfl
theorem in_81 : am_ini 81 = false := rfl
theorem ow_82 : am_own 82 = 6 := rfl
theorem rt_82 : am_rt 82 = 1 := rfl
theorem in_82 : am_ini 82 = false := rfl
theorem ow_83 : am_own 83 = 6 := rfl
theorem rt_83 : am_rt 83 = 1 := rfl
theorem in_83 : am_ini 83 = false := rfl
theorem ow_84 : am_own 84 = 6 := rfl
theorem rt_84 : am_rt 84 = 4 := rfl
theorem in_84 : am_ini 84 = false := rfl
theorem ow_85 : am_own 85 = 6 := rfl
theorem rt_85 : am_rt 85 = 2 := rfl
theorem in_85 : am_ini 85 = false := rfl
theorem ow_86 : am_own 86 = 6 := rfl
theorem rt_86 : am_rt 86 = 2 := rfl
theorem in_86 : am_ini 86 = false := rfl
theorem ow_87 : am_own 87 = 6 := rfl
theorem rt_87 : am_rt 87 = 0 := rfl
theorem in_87 : am_ini 87 = false := rfl
theorem ow_88 : am_own 88 = 6 := rfl
theorem rt_88 : am_rt 88 = 1 := rfl
theorem in_88 : am_ini 88 = false := rfl
theorem ow_89 : am_own 89 = 6 := rfl
theorem rt_89 : am_rt 89 = 2 := rfl
theorem in_89 : am_ini 89 = false := rfl
theorem ow_90 : am_own 90 = 6 := rfl
theorem rt_90 : am_rt 90 = 2 := rfl
theorem in_90 : am_ini 90 = false := rfl
theorem ow_91 : am_own 91 = 6 := rfl
theorem rt_91 : am_rt 91 = 1 := rfl
theorem in_91 : am_ini 91 = false := rfl
theorem ow_92 : am_own 92 = 6 := rfl
theorem rt_92 : am_rt 92 = 1 := rfl
theorem in_92 : am_ini 92 = false := rfl
theorem ow_93 : am_own 93 = 6 := rfl
theorem rt_93 : am_rt 93 = 2 := rfl
theorem in_93 : am_ini 93 = false := rfl
theorem ow_94 : am_own 94 = 6 := rfl
theorem rt_94 : am_rt 94 = 2 := rfl
theorem in_94 : am_ini 94 = false := rfl
theorem ow_95 : am_own 95 = 6 := rfl
theorem rt_95 : am_rt 95 = 2 := rfl
theorem in_95 : am_ini 95 = false := rfl
theorem ow_96 : am_own 96 = 6 := rfl
theorem rt_96 : am_rt 96 = 2 := rfl
theorem in_96 : am_ini 96 = false := rfl
theorem ow_97 : am_own 97 = 6 := rfl
theorem rt_97 : am_rt 97 = 2 := rfl
theorem in_97 : am_ini 97 = false := rfl
theorem ow_98 : am_own 98 = 6 := rfl
theorem rt_98 : am_rt 98 = 0 := rfl
theorem in_98 : am_ini 98 = false := rfl
theorem ow_99 : am_own 99 = 7 := rfl
theorem rt_99 : am_rt 99 = 0 := rfl
theorem in_99 : am_ini 99 = true := rfl
theorem ow_100 : am_own 100 = 7 := rfl
theorem rt_100 : am_rt 100 = 2 := rfl
theorem in_100 : am_ini 100 = false := rfl
theorem ow_101 : am_own 101 = 7 := rfl
theorem rt_101 : am_rt 101 = 3 := rfl
theorem in_101 : am_ini 101 = false := rfl
theorem ow_102 : am_own 102 = 7 := rfl
theorem rt_102 : am_rt 102 = 1 := rfl
theorem in_102 : am_ini 102 = false := rfl
theorem ow_103 : am_own 103 = 7 := rfl
theorem rt_103 : am_rt 103 = 1 := rfl
theorem in_103 : am_ini 103 = false := rfl
theorem ow_104 : am_own 104 = 7 := rfl
theorem rt_104 : am_rt 104 = 1 := rfl
theorem in_104 : am_ini 104 = false := rfl
theorem ow_105 : am_own 105 = 7 := rfl
theorem rt_105 : am_rt 105 = 2 := rfl
theorem in_105 : am_ini 105 = false := rfl
theorem ow_106 : am_own 106 = 7 := rfl
theorem rt_106 : am_rt 106 = 1 := rfl
theorem in_106 : am_ini 106 = false := rfl
theorem ow_107 : am_own 107 = 7 := rfl
theorem rt_107 : am_rt 107 = 1 := rfl
theorem in_107 : am_ini 107 = false := rfl
theorem ow_108 : am_own 108 = 7 := rfl
theorem rt_108 : am_rt 108 = 2 := rfl
theorem in_108 : am_ini 108 = false := rfl
theorem ow_109 : am_own 109 = 7 := rfl
theorem rt_109 : am_rt 109 = 1 := rfl
theorem in_109 : am_ini 109 = false := rfl
theorem ow_110 : am_own 110 = 7 := rfl
theorem rt_110 : am_rt 110 = 2 := rfl
theorem in_110 : am_ini 110 = false := rfl
theorem ow_111 : am_own 111 = 7 := rfl
theorem rt_111 : am_rt 111 = 1 := rfl
theorem in_111 : am_ini 111 = false := rfl
theorem ow_112 : am_own 112 = 7 := rfl
theorem rt_112 : am_rt 112 = 1 := rfl
theorem in_112 : am_ini 112 = false := rfl
theorem ow_113 : am_own 113 = 7 := rfl
theorem rt_113 : am_rt 113 = 1 := rfl
theorem in_113 : am_ini 113 = false := rfl
theorem ow_114 : am_own 114 = 7 := rfl
theorem rt_114 : am_rt 114 = 2 := rfl
theorem in_114 : am_ini 114 = false := rfl
theorem ow_115 : am_own 115 = 7 := rfl
theorem rt_115 : am_rt 115 = 2 := rfl
theorem in_115 : am_ini 115 = false := rfl
theorem ow_116 : am_own 116 = 7 := rfl
theorem rt_116 : am_rt 116 = 2 := rfl
theorem in_116 : am_ini 116 = false := rfl
theorem ow_117 : am_own 117 = 7 := rfl
theorem rt_117 : am_rt 117 = 2 := rfl
theorem in_117 : am_ini 117 = false := rfl
theorem ow_118 : am_own 118 = 7 := rfl
theorem rt_118 : am_rt 118 = 2 := rfl
theorem in_118 : am_ini 118 = false := rfl
theorem ow_119 : am_own 119 = 7 := rfl
theorem rt_119 : am_rt 119 = 2 := rfl
theorem in_119 : am_ini 119 = false := rfl
theorem ow_120 : am_own 120 = 7 := rfl
theorem rt_120 : am_rt 120 = 2 := rfl
theorem in_120 : am_ini 120 = false := rfl
theorem ow_121 : am_own 121 = 7 := rfl
theorem rt_121 : am_rt 121 = 2 := rfl
theorem in_121 : am_ini 121 = false := rfl
theorem ow_122 : am_own 122 = 7 := rfl
theorem rt_122 : am_rt 122 = 2 := rfl
theorem in_122 : am_ini 122 = false := rfl
theorem ow_123 : am_own 123 = 7 := rfl
theorem rt_123 : am_rt 123 = 2 := rfl
theorem in_123 : am_ini 123 = false := rfl
theorem ow_124 : am_own 124 = 7 := rfl
theorem rt_124 : am_rt 124 = 2 := rfl
theorem in_124 : am_ini 124 = false := rfl
theorem ow_125 : am_own 125 = 7 := rfl
theorem rt_125 : am_rt 125 = 0 := rfl
theorem in_125 : am_ini 125 = false := rfl
theorem ow_126 : am_own 126 = 7 := rfl
theorem rt_126 : am_rt 126 = 0 := rfl
theorem in_126 : am_ini 126 = false := rfl
theorem ow_127 : am_own 127 = 7 := rfl
theorem rt_127 : am_rt 127 = 0 := rfl
theorem in_127 : am_ini 127 = false := rfl
theorem ow_128 : am_own 128 = 7 := rfl
theorem rt_128 : am_rt 128 = 2 := rfl
theorem in_128 : am_ini 128 = false := rfl
theorem ow_129 : am_own 129 = 7 := rfl
theorem rt_129 : am_rt 129 = 2 := rfl
theorem in_129 : am_ini 129 = false := rfl
theorem ow_130 : am_own 130 = 7 := rfl
theorem rt_130 : am_rt 130 = 2 := rfl
theorem in_130 : am_ini 130 = false := rfl
theorem ow_131 : am_own 131 = 7 := rfl
theorem rt_131 : am_rt 131 = 2 := rfl
theorem in_131 : am_ini 131 = false := rfl
theorem ow_132 : am_own 132 = 7 := rfl
theorem rt_132 : am_rt 132 = 0 := rfl
theorem in_132 : am_ini 132 = false := rfl
theorem ow_133 : am_own 133 = 7 := rfl
theorem rt_133 : am_rt 133 = 0 := rfl
theorem in_133 : am_ini 133 = false := rfl
theorem ow_134 : am_own 134 = 7 := rfl
theorem rt_134 : am_rt 134 = 0 := rfl
theorem in_134 : am_ini 134 = false := rfl
theorem ow_135 : am_own 135 = 7 := rfl
theorem rt_135 : am_rt 135 = 2 := rfl
theorem in_135 : am_ini 135 = false := rfl
theorem ow_136 : am_own 136 = 7 := rfl
theorem rt_136 : am_rt 136 = 2 := rfl
theorem in_136 : am_ini 136 = false := rfl
theorem ow_137 : am_own 137 = 7 := rfl
theorem rt_137 : am_rt 137 = 2 := rfl
theorem in_137 : am_ini 137 = false := rfl
theorem ow_138 : am_own 138 = 7 := rfl
theorem rt_138 : am_rt 138 = 1 := rfl
theorem in_138 : am_ini 138 = false := rfl
theorem ow_139 : am_own 139 = 7 := rfl
theorem rt_139 : am_rt 139 = 1 := rfl
theorem in_139 : am_ini 139 = false := rfl
theorem ow_140 : am_own 140 = 7 := rfl
theorem rt_140 : am_rt 140 = 2 := rfl
theorem in_140 : am_ini 140 = false := rfl
theorem ow_141 : am_own 141 = 7 := rfl
theorem rt_141 : am_rt 141 = 2 := rfl
theorem in_141 : am_ini 141 = false := rfl
theorem ow_142 : am_own 142 = 7 := rfl
theorem rt_142 : am_rt 142 = 2 := rfl
theorem in_142 : am_ini 142 = false := rfl
theorem ow_143 : am_own 143 = 7 := rfl
theorem rt_143 : am_rt 143 = 2 := rfl
theorem in_143 : am_ini 143 = false := rfl
theorem ow_144 : am_own 144 = 7 := rfl
theorem rt_144 : am_rt 144 = 2 := rfl
theorem in_144 : am_ini 144 = false := rfl
theorem ow_145 : am_own 145 = 7 := rfl
theorem rt_145 : am_rt 145 = 1 := rfl
theorem in_145 : am_ini 145 = false := rfl
theorem ow_146 : am_own 146 = 7 := rfl
theorem rt_146 : am_rt 146 = 2 := rfl
theorem in_146 : am_ini 146 = false := rfl
theorem ow_147 : am_own 147 = 7 := rfl
theorem rt_147 : am_rt 147 = 2 := rfl
theorem in_147 : am_ini 147 = false := rfl
theorem ow_148 : am_own 148 = 7 := rfl
theorem rt_148 : am_rt 148 = 3 := rfl
theorem in_148 : am_ini 148 = false := rfl
theorem ow_149 : am_own 149 = 7 := rfl
theorem rt_149 : am_rt 149 = 2 := rfl
theorem in_149 : am_ini 149 = false := rfl
theorem ow_150 : am_own 150 = 7 := rfl
theorem rt_150 : am_rt 150 = 3 := rfl
theorem in_150 : am_ini 150 = false := rfl
theorem ow_151 : am_own 151 = 7 := rfl
theorem rt_151 : am_rt 151 = 2 := rfl
theorem in_151 : am_ini 151 = false := rfl
theorem ow_152 : am_own 152 = 7 := rfl
theorem rt_152 : am_rt 152 = 2 := rfl
theorem in_152 : am_ini 152 = false := rfl
theorem ow_153 : am_own 153 = 7 := rfl
theorem rt_153 : am_rt 153 = 2 := rfl
theorem in_153 : am_ini 153 = false := rfl
theorem ow_154 : am_own 154 = 7 := rfl
theorem rt_154 : am_rt 154 = 3 := rfl
theorem in_154 : am_ini 154 = false := rfl
theorem ow_155 : am_own 155 = 7 := rfl
theorem rt_155 : am_rt 155 = 2 := rfl
theorem in_155 : am_ini 155 = false := rfl
theorem ow_156 : am_own 156 = 7 := rfl
theorem rt_156 : am_rt 156 = 0 := rfl
theorem in_156 : am_ini 156 = false := rfl
theorem ow_157 : am_own 157 = 7 := rfl
theorem rt_157 : am_rt 157 = 2 := rfl
theorem in_157 : am_ini 157 = false := rfl
theorem ow_158 : am_own 158 = 7 := rfl
theorem rt_158 : am_rt 158 = 2 := rfl
theorem in_158 : am_ini 158 = false := rfl
theorem ow_159 : am_own 159 = 7 := rfl
theorem rt_159 : am_rt 159 = 2 := rfl
theorem in_159 : am_ini 159 = false := rfl
theorem ow_160 : am_own 160 = 7 := rfl
theorem rt_160 : am_rt 160 = 2 := rfl
theorem in_160 : am_ini 160 = false := rfl
theorem ow_161 : am_own 161 = 7 := rfl
theorem rt_161 : am_rt 161 = 2 := rfl
theorem in_161 : am_ini 161 = false := rfl
theorem ow_162 : am_own 162 = 7 := rfl
theorem rt_162 : am_rt 162 = 2 := rfl
theorem in_162 : am_ini 162 = false := rfl
theorem ow_163 : am_own 163 = 8 := rfl
theorem rt_163 : am_rt 163 = 2 := rfl
theorem in_163 : am_ini 163 = false := rfl
theorem ow_164 : am_own 164 = 9 := rfl
theorem rt_164 : am_rt 164 = 2 := rfl
theorem in_164 : am_ini 164 = false := rfl
theorem ow_165 : am_own 165 = 10 := rfl
theorem rt_165 : am_rt 165 = 1 := rfl
theorem in_165 : am_ini 165 = false := rfl
theorem fl_2_15 : am_fl 2 15 = some (2, 0) := by decide +kernel
theorem fl_6_256 : am_fl 6 256 = some (2, 0) := by decide +kernel
theorem fl_2_19 : am_fl 2 19 = some (2, 1) := by decide +kernel
theorem fl_6_269 : am_fl 6 269 = some (2, 1) := by decide +kernel
theorem fl_2_23 : am_fl 2 23 = some (2, 2) := by decide +kernel
theorem fl_4_81 : am_fl 4 81 = some (2, 2) := by decide +kernel
theorem fl_2_9 : am_fl 2 9 = some (2, 3) := by decide +kernel
theorem fl_4_86 : am_fl 4 86 = some (2, 3) := by decide +kernel
theorem fl_6_263 : am_fl 6 263 = some (2, 3) := by decide +kernel
theorem fl_0_18 : am_fl 0 18 = some (0, 0) := by decide +kernel
theorem fl_4_50 : am_fl 4 50 = some (0, 0) := by decide +kernel
theorem fl_6_97 : am_fl 6 97 = some (0, 0) := by decide +kernel
theorem fl_0_22 : am_fl 0 22 = some (0, 1) := by decide +kernel
theorem fl_4_55 : am_fl 4 55 = some (0, 1) := by decide +kernel
theorem fl_6_100 : am_fl 6 100 = some (0, 1) := by decide +kernel
theorem fl_5_74 : am_fl 5 74 = some (0, 1) := by decide +kernel
theorem fl_0_25 : am_fl 0 25 = some (0, 2) := by decide +kernel
theorem fl_4_58 : am_fl 4 58 = some (0, 2) := by decide +kernel
theorem fl_6_107 : am_fl 6 107 = some (0, 2) := by decide +kernel
theorem fl_1_99 : am_fl 1 99 = some (0, 2) := by decide +kernel
theorem fl_0_9 : am_fl 0 9 = some (0, 3) := by decide +kernel
theorem fl_6_92 : am_fl 6 92 = some (0, 3) := by decide +kernel
theorem fl_4_74 : am_fl 4 74 = some (0, 3) := by decide +kernel
theorem fl_1_104 : am_fl 1 104 = some (0, 3) := by decide +kernel
theorem fl_0_15 : am_fl 0 15 = some (0, 4) := by decide +kernel
theorem fl_1_110 : am_fl 1 110 = some (0, 4) := by decide +kernel
theorem fl_4_78 : am_fl 4 78 = some (0, 4) := by decide +kernel
theorem fl_3_7 : am_fl 3 7 = some (3, 0) := by decide +kernel
theorem fl_5_40 : am_fl 5 40 = some (3, 0) := by decide +kernel
theorem fl_1_69 : am_fl 1 69 = some (3, 0) := by decide +kernel
theorem fl_6_133 : am_fl 6 133 = some (3, 0) := by decide +kernel
theorem fl_3_13 : am_fl 3 13 = some (3, 1) := by decide +kernel
theorem fl_5_43 : am_fl 5 43 = some (3, 1) := by decide +kernel
theorem fl_1_74 : am_fl 1 74 = some (3, 1) := by decide +kernel
theorem fl_6_138 : am_fl 6 138 = some (3, 1) := by decide +kernel
theorem fl_3_16 : am_fl 3 16 = some (3, 2) := by decide +kernel
theorem fl_5_46 : am_fl 5 46 = some (3, 2) := by decide +kernel
theorem fl_1_89 : am_fl 1 89 = some (3, 2) := by decide +kernel
theorem fl_6_141 : am_fl 6 141 = some (3, 2) := by decide +kernel
theorem fl_3_19 : am_fl 3 19 = some (3, 3) := by decide +kernel
theorem fl_5_49 : am_fl 5 49 = some (3, 3) := by decide +kernel
theorem fl_1_96 : am_fl 1 96 = some (3, 3) := by decide +kernel
theorem fl_6_144 : am_fl 6 144 = some (3, 3) := by decide +kernel
theorem fl_5_11 : am_fl 5 11 = some (5, 0) := by decide +kernel
theorem fl_4_29 : am_fl 4 29 = some (5, 0) := by decide +kernel
theorem fl_6_236 : am_fl 6 236 = some (5, 0) := by decide +kernel
theorem fl_5_29 : am_fl 5 29 = some (5, 1) := by decide +kernel
theorem fl_4_39 : am_fl 4 39 = some (5, 1) := by decide +kernel
theorem fl_6_85 : am_fl 6 85 = some (5, 1) := by decide +kernel
theorem fl_5_19 : am_fl 5 19 = some (5, 2) := by decide +kernel
theorem fl_1_65 : am_fl 1 65 = some (5, 2) := by decide +kernel
theorem fl_5_33 : am_fl 5 33 = some (5, 3) := by decide +kernel
theorem fl_1_62 : am_fl 1 62 = some (5, 3) := by decide +kernel
theorem fl_6_126 : am_fl 6 126 = some (5, 3) := by decide +kernel
theorem fl_5_23 : am_fl 5 23 = some (5, 4) := by decide +kernel
theorem fl_6_151 : am_fl 6 151 = some (5, 4) := by decide +kernel
theorem fl_1_27 : am_fl 1 27 = some (1, 0) := by decide +kernel
theorem fl_6_183 : am_fl 6 183 = some (1, 0) := by decide +kernel
theorem fl_1_11 : am_fl 1 11 = some (1, 1) := by decide +kernel
theorem fl_6_193 : am_fl 6 193 = some (1, 1) := by decide +kernel
theorem fl_1_15 : am_fl 1 15 = some (1, 2) := by decide +kernel
theorem fl_6_196 : am_fl 6 196 = some (1, 2) := by decide +kernel
theorem fl_1_18 : am_fl 1 18 = some (1, 3) := by decide +kernel
theorem fl_6_212 : am_fl 6 212 = some (1, 3) := by decide +kernel
theorem fl_1_21 : am_fl 1 21 = some (1, 4) := by decide +kernel
theorem fl_6_164 : am_fl 6 164 = some (1, 4) := by decide +kernel
theorem fl_1_24 : am_fl 1 24 = some (1, 5) := by decide +kernel
theorem fl_6_161 : am_fl 6 161 = some (1, 5) := by decide +kernel
theorem fl_4_9 : am_fl 4 9 = some (4, 0) := by decide +kernel
theorem fl_4_15 : am_fl 4 15 = some (4, 1) := by decide +kernel
theorem fl_4_19 : am_fl 4 19 = some (4, 2) := by decide +kernel
theorem fl_4_22 : am_fl 4 22 = some (4, 3) := by decide +kernel
theorem fl_6_13 : am_fl 6 13 = some (6, 0) := by decide +kernel
theorem fl_6_21 : am_fl 6 21 = some (6, 1) := by decide +kernel
theorem fl_6_25 : am_fl 6 25 = some (6, 2) := by decide +kernel
theorem fl_6_31 : am_fl 6 31 = some (6, 3) := by decide +kernel
theorem fl_6_38 : am_fl 6 38 = some (6, 4) := by decide +kernel
theorem fl_6_42 : am_fl 6 42 = some (6, 5) := by decide +kernel
theorem fl_6_46 : am_fl 6 46 = some (6, 6) := by decide +kernel
theorem fl_6_82 : am_fl 6 82 = some (6, 7) := by decide +kernel
theorem fl_6_291 : am_fl 6 291 = some (6, 8) := by decide +kernel
theorem fl_6_49 : am_fl 6 49 = some (6, 9) := by decide +kernel
theorem fl_7_85 : am_fl 7 85 = some (7, 0) := by decide +kernel
theorem fl_7_245 : am_fl 7 245 = some (7, 1) := by decide +kernel
theorem fl_7_9 : am_fl 7 9 = some (7, 2) := by decide +kernel
theorem fl_7_13 : am_fl 7 13 = some (7, 3) := by decide +kernel
theorem fl_7_16 : am_fl 7 16 = some (7, 4) := by decide +kernel
theorem fl_7_95 : am_fl 7 95 = some (7, 5) := by decide +kernel
theorem fl_7_98 : am_fl 7 98 = some (7, 6) := by decide +kernel
theorem fl_7_19 : am_fl 7 19 = some (7, 7) := by decide +kernel
theorem fl_7_22 : am_fl 7 22 = some (7, 8) := by decide +kernel
theorem fl_7_25 : am_fl 7 25 = some (7, 9) := by decide +kernel
theorem fl_7_28 : am_fl 7 28 = some (7, 10) := by decide +kernel
theorem fl_7_31 : am_fl 7 31 = some (7, 11) := by decide +kernel
theorem fl_7_34 : am_fl 7 34 = some (7, 12) := by decide +kernel
theorem fl_7_37 : am_fl 7 37 = some (7, 13) := by decide +kernel
theorem fl_7_40 : am_fl 7 40 = some (7, 14) := by decide +kernel
theorem fl_7_43 : am_fl 7 43 = some (7, 15) := by decide +kernel
theorem fl_7_46 : am_fl 7 46 = some (7, 16) := by decide +kernel
theorem fl_7_101 : am_fl 7 101 = some (7, 17) := by decide +kernel
theorem fl_7_122 : am_fl 7 122 = some (7, 18) := by decide +kernel
theorem fl_7_49 : am_fl 7 49 = some (7, 19) := by decide +kernel
theorem fl_7_52 : am_fl 7 52 = some (7, 20) := by decide +kernel
theorem fl_7_55 : am_fl 7 55 = some (7, 21) := by decide +kernel
theorem fl_7_58 : am_fl 7 58 = some (7, 22) := by decide +kernel
theorem fl_7_61 : am_fl 7 61 = some (7, 23) := by decide +kernel
theorem fl_7_64 : am_fl 7 64 = some (7, 24) := by decide +kernel
theorem fl_7_67 : am_fl 7 67 = some (7, 25) := by decide +kernel
theorem fl_7_70 : am_fl 7 70 = some (7, 26) := by decide +kernel
theorem fl_7_73 : am_fl 7 73 = some (7, 27) := by decide +kernel
theorem fl_7_176 : am_fl 7 176 = some (7, 28) := by decide +kernel
theorem fl_7_188 : am_fl 7 188 = some (7, 29) := by decide +kernel
theorem fl_7_185 : am_fl 7 185 = some (7, 30) := by decide +kernel
theorem fl_7_182 : am_fl 7 182 = some (7, 31) := by decide +kernel
theorem fl_7_191 : am_fl 7 191 = some (7, 32) := by decide +kernel
theorem fl_7_194 : am_fl 7 194 = some (7, 33) := by decide +kernel
theorem fl_7_197 : am_fl 7 197 = some (7, 34) := by decide +kernel
theorem fl_7_200 : am_fl 7 200 = some (7, 35) := by decide +kernel
theorem fl_7_203 : am_fl 7 203 = some (7, 36) := by decide +kernel
theorem fl_7_76 : am_fl 7 76 = some (7, 37) := by decide +kernel
theorem fl_7_125 : am_fl 7 125 = some (7, 38) := by decide +kernel
theorem fl_7_79 : am_fl 7 79 = some (7, 39) := by decide +kernel
theorem fl_7_82 : am_fl 7 82 = some (7, 40) := by decide +kernel
theorem ml_10_9 : am_ml 10 9 = some (2, 52) := by decide +kernel
theorem ml_6_3 : am_ml 6 3 = some (6, 0) := by decide +kernel
theorem ml_6_17 : am_ml 6 17 = some (4, 16) := by decide +kernel
theorem ml_2_3 : am_ml 2 3 = some (6, 0) := by decide +kernel
theorem ml_6_20 : am_ml 6 20 = some (2, 40) := by decide +kernel
theorem ml_5_3 : am_ml 5 3 = some (6, 0) := by decide +kernel
theorem ml_5_27 : am_ml 5 27 = some (4, 0) := by decide +kernel
theorem ml_0_3 : am_ml 0 3 = some (6, 0) := by decide +kernel
theorem ml_5_28 : am_ml 5 28 = some (4, 28) := by decide +kernel
theorem ml_3_1 : am_ml 3 1 = some (6, 0) := by decide +kernel
theorem ml_6_30 : am_ml 6 30 = some (4, 3) := by decide +kernel
theorem ml_1_3 : am_ml 1 3 = some (6, 0) := by decide +kernel
theorem ml_6_37 : am_ml 6 37 = some (4, 30) := by decide +kernel
theorem ml_4_3 : am_ml 4 3 = some (6, 0) := by decide +kernel
theorem ml_10_13 : am_ml 10 13 = some (0, 53) := by decide +kernel
theorem ml_6_53 : am_ml 6 53 = some (0, 84) := by decide +kernel
theorem ml_6_57 : am_ml 6 57 = some (1, 82) := by decide +kernel
theorem ml_6_61 : am_ml 6 61 = some (0, 19) := by decide +kernel
theorem ml_6_65 : am_ml 6 65 = some (0, 21) := by decide +kernel
theorem ml_6_68 : am_ml 6 68 = some (0, 85) := by decide +kernel
theorem ml_6_71 : am_ml 6 71 = some (0, 41) := by decide +kernel
theorem ml_6_74 : am_ml 6 74 = some (0, 31) := by decide +kernel
theorem ml_4_25 : am_ml 4 25 = some (0, 39) := by decide +kernel
theorem ml_4_35 : am_ml 4 35 = some (0, 32) := by decide +kernel
theorem ml_4_42 : am_ml 4 42 = some (0, 33) := by decide +kernel
theorem ml_4_46 : am_ml 4 46 = some (0, 38) := by decide +kernel
theorem ml_4_61 : am_ml 4 61 = some (0, 34) := by decide +kernel
theorem ml_4_65 : am_ml 4 65 = some (0, 35) := by decide +kernel
theorem ml_4_68 : am_ml 4 68 = some (0, 36) := by decide +kernel
theorem ml_4_71 : am_ml 4 71 = some (0, 37) := by decide +kernel
theorem ml_6_78 : am_ml 6 78 = some (0, 42) := by decide +kernel
theorem ml_5_36 : am_ml 5 36 = some (0, 2) := by decide +kernel
theorem ml_0_28 : am_ml 0 28 = some (5, 0) := by decide +kernel
theorem ml_5_52 : am_ml 5 52 = some (0, 29) := by decide +kernel
theorem ml_5_56 : am_ml 5 56 = some (5, 0) := by decide +kernel
theorem ml_10_18 : am_ml 10 18 = some (0, 54) := by decide +kernel
theorem ml_6_88 : am_ml 6 88 = some (0, 43) := by decide +kernel
theorem ml_5_62 : am_ml 5 62 = some (3, 82) := by decide +kernel
theorem ml_6_103 : am_ml 6 103 = some (0, 1) := by decide +kernel
theorem ml_10_23 : am_ml 10 23 = some (0, 55) := by decide +kernel
theorem ml_6_110 : am_ml 6 110 = some (0, 86) := by decide +kernel
theorem ml_6_118 : am_ml 6 118 = some (0, 45) := by decide +kernel
theorem ml_10_28 : am_ml 10 28 = some (0, 56) := by decide +kernel
theorem ml_10_32 : am_ml 10 32 = some (0, 57) := by decide +kernel
theorem ml_6_114 : am_ml 6 114 = some (0, 44) := by decide +kernel
theorem ml_10_37 : am_ml 10 37 = some (0, 58) := by decide +kernel
theorem ml_6_122 : am_ml 6 122 = some (0, 46) := by decide +kernel
theorem ml_6_129 : am_ml 6 129 = some (0, 87) := by decide +kernel
theorem ml_10_42 : am_ml 10 42 = some (0, 59) := by decide +kernel
theorem ml_10_46 : am_ml 10 46 = some (0, 60) := by decide +kernel
theorem ml_6_147 : am_ml 6 147 = some (1, 83) := by decide +kernel
theorem ml_10_50 : am_ml 10 50 = some (0, 61) := by decide +kernel
theorem ml_10_54 : am_ml 10 54 = some (0, 62) := by decide +kernel
theorem ml_6_154 : am_ml 6 154 = some (0, 49) := by decide +kernel
theorem ml_5_79 : am_ml 5 79 = some (1, 24) := by decide +kernel
theorem ml_6_157 : am_ml 6 157 = some (0, 7) := by decide +kernel
theorem ml_1_77 : am_ml 1 77 = some (1, 23) := by decide +kernel
theorem ml_1_81 : am_ml 1 81 = some (0, 8) := by decide +kernel
theorem ml_1_85 : am_ml 1 85 = some (0, 43) := by decide +kernel
theorem ml_1_92 : am_ml 1 92 = some (3, 82) := by decide +kernel
theorem ml_1_107 : am_ml 1 107 = some (1, 9) := by decide +kernel
theorem ml_1_113 : am_ml 1 113 = some (1, 25) := by decide +kernel
theorem ml_1_117 : am_ml 1 117 = some (1, 26) := by decide +kernel
theorem ml_6_167 : am_ml 6 167 = some (1, 89) := by decide +kernel
theorem ml_6_170 : am_ml 6 170 = some (1, 90) := by decide +kernel
theorem ml_10_58 : am_ml 10 58 = some (0, 63) := by decide +kernel
theorem ml_6_173 : am_ml 6 173 = some (0, 4) := by decide +kernel
theorem ml_1_31 : am_ml 1 31 = some (0, 44) := by decide +kernel
theorem ml_1_37 : am_ml 1 37 = some (0, 49) := by decide +kernel
theorem ml_1_41 : am_ml 1 41 = some (0, 5) := by decide +kernel
theorem ml_1_45 : am_ml 1 45 = some (0, 7) := by decide +kernel
theorem ml_1_49 : am_ml 1 49 = some (0, 6) := by decide +kernel
theorem ml_1_53 : am_ml 1 53 = some (1, 27) := by decide +kernel
theorem ml_1_59 : am_ml 1 59 = some (1, 24) := by decide +kernel
theorem ml_6_177 : am_ml 6 177 = some (0, 10) := by decide +kernel
theorem ml_6_180 : am_ml 6 180 = some (0, 12) := by decide +kernel
theorem ml_6_186 : am_ml 6 186 = some (0, 13) := by decide +kernel
theorem ml_1_120 : am_ml 1 120 = some (0, 51) := by decide +kernel
theorem ml_5_70 : am_ml 5 70 = some (0, 43) := by decide +kernel
theorem ml_5_87 : am_ml 5 87 = some (0, 1) := by decide +kernel
theorem ml_1_123 : am_ml 1 123 = some (1, 164) := by decide +kernel
theorem ml_10_62 : am_ml 10 62 = some (0, 64) := by decide +kernel
theorem ml_6_190 : am_ml 6 190 = some (0, 11) := by decide +kernel
theorem ml_6_199 : am_ml 6 199 = some (0, 50) := by decide +kernel
theorem ml_5_83 : am_ml 5 83 = some (1, 23) := by decide +kernel
theorem ml_6_202 : am_ml 6 202 = some (1, 25) := by decide +kernel
theorem ml_6_207 : am_ml 6 207 = some (1, 163) := by decide +kernel
theorem ml_6_215 : am_ml 6 215 = some (0, 51) := by decide +kernel
theorem ml_6_218 : am_ml 6 218 = some (1, 26) := by decide +kernel
theorem ml_6_221 : am_ml 6 221 = some (1, 23) := by decide +kernel
theorem ml_10_66 : am_ml 10 66 = some (0, 65) := by decide +kernel
theorem ml_6_225 : am_ml 6 225 = some (1, 91) := by decide +kernel
theorem ml_6_297 : am_ml 6 297 = some (1, 92) := by decide +kernel
theorem ml_6_229 : am_ml 6 229 = some (0, 93) := by decide +kernel
theorem ml_6_300 : am_ml 6 300 = some (0, 47) := by decide +kernel
theorem ml_5_66 : am_ml 5 66 = some (0, 46) := by decide +kernel
theorem ml_6_233 : am_ml 6 233 = some (0, 94) := by decide +kernel
theorem ml_10_71 : am_ml 10 71 = some (0, 66) := by decide +kernel
theorem ml_10_75 : am_ml 10 75 = some (0, 67) := by decide +kernel
theorem ml_10_79 : am_ml 10 79 = some (0, 68) := by decide +kernel
theorem ml_6_240 : am_ml 6 240 = some (0, 88) := by decide +kernel
theorem ml_10_83 : am_ml 10 83 = some (0, 69) := by decide +kernel
theorem ml_10_87 : am_ml 10 87 = some (0, 70) := by decide +kernel
theorem ml_6_246 : am_ml 6 246 = some (0, 14) := by decide +kernel
theorem ml_1_128 : am_ml 1 128 = some (1, 15) := by decide +kernel
theorem ml_1_132 : am_ml 1 132 = some (1, 163) := by decide +kernel
theorem ml_1_137 : am_ml 1 137 = some (0, 50) := by decide +kernel
theorem ml_10_92 : am_ml 10 92 = some (0, 71) := by decide +kernel
theorem ml_6_250 : am_ml 6 250 = some (0, 17) := by decide +kernel
theorem ml_10_96 : am_ml 10 96 = some (0, 72) := by decide +kernel
theorem ml_6_254 : am_ml 6 254 = some (0, 18) := by decide +kernel
theorem ml_10_100 : am_ml 10 100 = some (0, 73) := by decide +kernel
theorem ml_6_260 : am_ml 6 260 = some (0, 20) := by decide +kernel
theorem ml_6_266 : am_ml 6 266 = some (0, 22) := by decide +kernel
theorem ml_10_104 : am_ml 10 104 = some (0, 74) := by decide +kernel
theorem ml_10_108 : am_ml 10 108 = some (0, 75) := by decide +kernel
theorem ml_6_272 : am_ml 6 272 = some (5, 0) := by decide +kernel
theorem ml_10_112 : am_ml 10 112 = some (0, 76) := by decide +kernel
theorem ml_6_278 : am_ml 6 278 = some (0, 97) := by decide +kernel
theorem ml_6_288 : am_ml 6 288 = some (0, 98) := by decide +kernel
theorem ml_6_282 : am_ml 6 282 = some (0, 96) := by decide +kernel
theorem ml_6_285 : am_ml 6 285 = some (0, 95) := by decide +kernel
theorem ml_10_116 : am_ml 10 116 = some (0, 77) := by decide +kernel
theorem ml_10_120 : am_ml 10 120 = some (0, 78) := by decide +kernel
theorem ml_10_124 : am_ml 10 124 = some (0, 79) := by decide +kernel
theorem ml_10_128 : am_ml 10 128 = some (0, 80) := by decide +kernel
theorem ml_10_132 : am_ml 10 132 = some (0, 81) := by decide +kernel
theorem ml_6_294 : am_ml 6 294 = some (0, 48) := by decide +kernel
theorem ml_10_12 : am_ml 10 12 = some (2, 99) := by decide +kernel
theorem ml_7_1 : am_ml 7 1 = some (6, 0) := by decide +kernel
theorem ml_10_17 : am_ml 10 17 = some (0, 110) := by decide +kernel
theorem ml_7_104 : am_ml 7 104 = some (1, 103) := by decide +kernel
theorem ml_7_91 : am_ml 7 91 = some (1, 102) := by decide +kernel
theorem ml_7_108 : am_ml 7 108 = some (1, 104) := by decide +kernel
theorem ml_7_111 : am_ml 7 111 = some (0, 105) := by decide +kernel
theorem ml_7_115 : am_ml 7 115 = some (0, 100) := by decide +kernel
theorem ml_7_119 : am_ml 7 119 = some (0, 111) := by decide +kernel
theorem ml_7_128 : am_ml 7 128 = some (0, 109) := by decide +kernel
theorem ml_7_132 : am_ml 7 132 = some (0, 112) := by decide +kernel
theorem ml_7_135 : am_ml 7 135 = some (0, 108) := by decide +kernel
theorem ml_7_139 : am_ml 7 139 = some (0, 113) := by decide +kernel
theorem ml_10_22 : am_ml 10 22 = some (0, 115) := by decide +kernel
theorem ml_7_142 : am_ml 7 142 = some (0, 106) := by decide +kernel
theorem ml_7_145 : am_ml 7 145 = some (0, 114) := by decide +kernel
theorem ml_10_27 : am_ml 10 27 = some (0, 117) := by decide +kernel
theorem ml_7_148 : am_ml 7 148 = some (0, 116) := by decide +kernel
theorem ml_10_31 : am_ml 10 31 = some (0, 118) := by decide +kernel
theorem ml_10_36 : am_ml 10 36 = some (0, 119) := by decide +kernel
theorem ml_7_151 : am_ml 7 151 = some (0, 107) := by decide +kernel
theorem ml_10_41 : am_ml 10 41 = some (0, 120) := by decide +kernel
theorem ml_10_45 : am_ml 10 45 = some (0, 121) := by decide +kernel
theorem ml_10_49 : am_ml 10 49 = some (0, 122) := by decide +kernel
theorem ml_10_53 : am_ml 10 53 = some (0, 129) := by decide +kernel
theorem ml_10_57 : am_ml 10 57 = some (0, 130) := by decide +kernel
theorem ml_7_169 : am_ml 7 169 = some (0, 128) := by decide +kernel
theorem ml_7_173 : am_ml 7 173 = some (0, 127) := by decide +kernel
theorem ml_7_165 : am_ml 7 165 = some (0, 125) := by decide +kernel
theorem ml_7_154 : am_ml 7 154 = some (1, 123) := by decide +kernel
theorem ml_7_158 : am_ml 7 158 = some (0, 126) := by decide +kernel
theorem ml_7_162 : am_ml 7 162 = some (1, 124) := by decide +kernel
theorem ml_10_61 : am_ml 10 61 = some (0, 135) := by decide +kernel
theorem ml_7_212 : am_ml 7 212 = some (0, 134) := by decide +kernel
theorem ml_7_206 : am_ml 7 206 = some (0, 132) := by decide +kernel
theorem ml_7_209 : am_ml 7 209 = some (0, 133) := by decide +kernel
theorem ml_7_179 : am_ml 7 179 = some (0, 131) := by decide +kernel
theorem ml_10_65 : am_ml 10 65 = some (0, 137) := by decide +kernel
theorem ml_7_215 : am_ml 7 215 = some (0, 136) := by decide +kernel
theorem ml_10_70 : am_ml 10 70 = some (0, 141) := by decide +kernel
theorem ml_7_221 : am_ml 7 221 = some (1, 139) := by decide +kernel
theorem ml_7_224 : am_ml 7 224 = some (0, 140) := by decide +kernel
theorem ml_7_218 : am_ml 7 218 = some (0, 138) := by decide +kernel
theorem ml_7_227 : am_ml 7 227 = some (0, 142) := by decide +kernel
theorem ml_10_74 : am_ml 10 74 = some (0, 143) := by decide +kernel
theorem ml_10_78 : am_ml 10 78 = some (0, 144) := by decide +kernel
theorem ml_10_82 : am_ml 10 82 = some (0, 146) := by decide +kernel
theorem ml_7_230 : am_ml 7 230 = some (0, 145) := by decide +kernel
theorem ml_10_86 : am_ml 10 86 = some (0, 147) := by decide +kernel
theorem ml_10_91 : am_ml 10 91 = some (0, 150) := by decide +kernel
theorem ml_7_234 : am_ml 7 234 = some (0, 149) := by decide +kernel
theorem ml_7_237 : am_ml 7 237 = some (1, 148) := by decide +kernel
theorem ml_10_95 : am_ml 10 95 = some (0, 151) := by decide +kernel
theorem ml_10_99 : am_ml 10 99 = some (0, 152) := by decide +kernel
theorem ml_10_103 : am_ml 10 103 = some (0, 153) := by decide +kernel
theorem ml_10_107 : am_ml 10 107 = some (0, 154) := by decide +kernel
theorem ml_7_241 : am_ml 7 241 = some (0, 101) := by decide +kernel
theorem ml_10_111 : am_ml 10 111 = some (0, 155) := by decide +kernel
theorem ml_10_115 : am_ml 10 115 = some (0, 157) := by decide +kernel
theorem ml_7_248 : am_ml 7 248 = some (0, 156) := by decide +kernel
theorem ml_10_119 : am_ml 10 119 = some (0, 158) := by decide +kernel
theorem ml_10_123 : am_ml 10 123 = some (0, 159) := by decide +kernel
theorem ml_10_127 : am_ml 10 127 = some (0, 160) := by decide +kernel
theorem ml_10_131 : am_ml 10 131 = some (0, 161) := by decide +kernel
theorem ml_10_135 : am_ml 10 135 = some (0, 162) := by decide +kernel
theorem cl_10_7 : am_cll 10 7 = some 6 := by decide +kernel
theorem cl_6_11 : am_cll 6 11 = some 2 := by decide +kernel
theorem cl_6_18 : am_cll 6 18 = some 5 := by decide +kernel
theorem cl_5_9 : am_cll 5 9 = some 0 := by decide +kernel
theorem cl_5_17 : am_cll 5 17 = some 3 := by decide +kernel
theorem cl_6_28 : am_cll 6 28 = some 1 := by decide +kernel
theorem cl_6_35 : am_cll 6 35 = some 4 := by decide +kernel
theorem cl_10_10 : am_cll 10 10 = some 7 := by decide +kernel
theorem ci_8_265 : am_ci 8 265 = some 1431655765 := by decide +kernel
theorem ci_8_266 : am_ci 8 266 = some 858993459 := by decide +kernel
theorem ci_8_267 : am_ci 8 267 = some 252645135 := by decide +kernel
theorem cg_6_244 : am_cg 6 244 = some (-9223372036854775808) := by decide +kernel
theorem cg_7_89 : am_cg 7 89 = some (-9223372036854775808) := by decide +kernel
theorem fk_0 : am_fk 0 = [0, 0, 0, 2, 2] := rfl
theorem fk_0_0 : (am_fk 0).getD 0 9 = 0 := rfl
theorem ff_0_0 : (am_ff 0).getD 0 true = false := rfl
theorem fk_0_1 : (am_fk 0).getD 1 9 = 0 := rfl
theorem ff_0_1 : (am_ff 0).getD 1 true = false := rfl
theorem fk_0_2 : (am_fk 0).getD 2 9 = 0 := rfl
theorem ff_0_2 : (am_ff 0).getD 2 true = false := rfl
theorem fk_0_3 : (am_fk 0).getD 3 9 = 2 := rfl
theorem ff_0_3 : (am_ff 0).getD 3 true = true := rfl
theorem fk_0_4 : (am_fk 0).getD 4 9 = 2 := rfl
theorem ff_0_4 : (am_ff 0).getD 4 true = true := rfl
theorem fk_1 : am_fk 1 = [0, 2, 2, 2, 2, 2] := rfl
theorem fk_1_0 : (am_fk 1).getD 0 9 = 0 := rfl
theorem ff_1_0 : (am_ff 1).getD 0 true = false := rfl
theorem fk_1_1 : (am_fk 1).getD 1 9 = 2 := rfl
theorem ff_1_1 : (am_ff 1).getD 1 true = true := rfl
theorem fk_1_2 : (am_fk 1).getD 2 9 = 2 := rfl
theorem ff_1_2 : (am_ff 1).getD 2 true = true := rfl
theorem fk_1_3 : (am_fk 1).getD 3 9 = 2 := rfl
theorem ff_1_3 : (am_ff 1).getD 3 true = true := rfl
theorem fk_1_4 : (am_fk 1).getD 4 9 = 2 := rfl
theorem ff_1_4 : (am_ff 1).getD 4 true = true := rfl
theorem fk_1_5 : (am_fk 1).getD 5 9 = 2 := rfl
theorem ff_1_5 : (am_ff 1).getD 5 true = true := rfl
theorem fk_2 : am_fk 2 = [1, 0, 0, 2] := rfl
theorem fk_2_0 : (am_fk 2).getD 0 9 = 1 := rfl
theorem ff_2_0 : (am_ff 2).getD 0 true = false := rfl
theorem fk_2_1 : (am_fk 2).getD 1 9 = 0 := rfl
theorem ff_2_1 : (am_ff 2).getD 1 true = false := rfl
theorem fk_2_2 : (am_fk 2).getD 2 9 = 0 := rfl
theorem ff_2_2 : (am_ff 2).getD 2 true = false := rfl
theorem fk_2_3 : (am_fk 2).getD 3 9 = 2 := rfl
theorem ff_2_3 : (am_ff 2).getD 3 true = true := rfl
theorem fk_3 : am_fk 3 = [0, 0, 0, 0] := rfl
theorem fk_3_0 : (am_fk 3).getD 0 9 = 0 := rfl
theorem ff_3_0 : (am_ff 3).getD 0 true = false := rfl
theorem fk_3_1 : (am_fk 3).getD 1 9 = 0 := rfl
theorem ff_3_1 : (am_ff 3).getD 1 true = false := rfl
theorem fk_3_2 : (am_fk 3).getD 2 9 = 0 := rfl
theorem ff_3_2 : (am_ff 3).getD 2 true = false := rfl
theorem fk_3_3 : (am_fk 3).getD 3 9 = 0 := rfl
theorem ff_3_3 : (am_ff 3).getD 3 true = false := rfl
theorem fk_4 : am_fk 4 = [2, 0, 0, 0] := rfl
theorem fk_4_0 : (am_fk 4).getD 0 9 = 2 := rfl
theorem ff_4_0 : (am_ff 4).getD 0 true = false := rfl
theorem fk_4_1 : (am_fk 4).getD 1 9 = 0 := rfl
theorem ff_4_1 : (am_ff 4).getD 1 true = false := rfl
theorem fk_4_2 : (am_fk 4).getD 2 9 = 0 := rfl
theorem ff_4_2 : (am_ff 4).getD 2 true = false := rfl
theorem fk_4_3 : (am_fk 4).getD 3 9 = 0 := rfl
theorem ff_4_3 : (am_ff 4).getD 3 true = false := rfl
theorem fk_5 : am_fk 5 = [2, 0, 2, 0, 2] := rfl
theorem fk_5_0 : (am_fk 5).getD 0 9 = 2 := rfl
theorem ff_5_0 : (am_ff 5).getD 0 true = true := rfl
theorem fk_5_1 : (am_fk 5).getD 1 9 = 0 := rfl
theorem ff_5_1 : (am_ff 5).getD 1 true = false := rfl
theorem fk_5_2 : (am_fk 5).getD 2 9 = 2 := rfl
theorem ff_5_2 : (am_ff 5).getD 2 true = true := rfl
theorem fk_5_3 : (am_fk 5).getD 3 9 = 0 := rfl
theorem ff_5_3 : (am_ff 5).getD 3 true = false := rfl
theorem fk_5_4 : (am_fk 5).getD 4 9 = 2 := rfl
theorem ff_5_4 : (am_ff 5).getD 4 true = true := rfl
theorem fk_6 : am_fk 6 = [2, 2, 2, 2, 2, 2, 2, 0, 0, 0] := rfl
theorem fk_6_0 : (am_fk 6).getD 0 9 = 2 := rfl
theorem ff_6_0 : (am_ff 6).getD 0 true = true := rfl
theorem fk_6_1 : (am_fk 6).getD 1 9 = 2 := rfl
theorem ff_6_1 : (am_ff 6).getD 1 true = true := rfl
theorem fk_6_2 : (am_fk 6).getD 2 9 = 2 := rfl
theorem ff_6_2 : (am_ff 6).getD 2 true = true := rfl
theorem fk_6_3 : (am_fk 6).getD 3 9 = 2 := rfl
theorem ff_6_3 : (am_ff 6).getD 3 true = true := rfl
theorem fk_6_4 : (am_fk 6).getD 4 9 = 2 := rfl
theorem ff_6_4 : (am_ff 6).getD 4 true = true := rfl
theorem fk_6_5 : (am_fk 6).getD 5 9 = 2 := rfl
theorem ff_6_5 : (am_ff 6).getD 5 true = true := rfl
theorem fk_6_6 : (am_fk 6).getD 6 9 = 2 := rfl
theorem ff_6_6 : (am_ff 6).getD 6 true = true := rfl
theorem fk_6_7 : (am_fk 6).getD 7 9 = 0 := rfl
theorem ff_6_7 : (am_ff 6).getD 7 true = false := rfl
theorem fk_6_8 : (am_fk 6).getD 8 9 = 0 := rfl
theorem ff_6_8 : (am_ff 6).getD 8 true = false := rfl
theorem fk_6_9 : (am_fk 6).getD 9 9 = 0 := rfl
theorem ff_6_9 : (am_ff 6).getD 9 true = false := rfl
theorem fk_7 : am_fk 7 = [0, 0, 2, 2, 2, 0, 0, 2, 2, 2, 2, 2, 2, 2, 2, 2, 2, 0, 0, 2, 2, 2, 2, 2, 2, 2, 2, 2, 0, 0, 0, 0, 0, 0, 0, 0, 0, 2, 0, 2, 2] := rfl
theorem fk_7_0 : (am_fk 7).getD 0 9 = 0 := rfl
theorem ff_7_0 : (am_ff 7).getD 0 true = false := rfl
theorem fk_7_1 : (am_fk 7).getD 1 9 = 0 := rfl
theorem ff_7_1 : (am_ff 7).getD 1 true = false := rfl
theorem fk_7_2 : (am_fk 7).getD 2 9 = 2 := rfl
theorem ff_7_2 : (am_ff 7).getD 2 true = true := rfl
theorem fk_7_3 : (am_fk 7).getD 3 9 = 2 := rfl
theorem ff_7_3 : (am_ff 7).getD 3 true = true := rfl
theorem fk_7_4 : (am_fk 7).getD 4 9 = 2 := rfl
theorem ff_7_4 : (am_ff 7).getD 4 true = true := rfl
theorem fk_7_5 : (am_fk 7).getD 5 9 = 0 := rfl
theorem ff_7_5 : (am_ff 7).getD 5 true = false := rfl
theorem fk_7_6 : (am_fk 7).getD 6 9 = 0 := rfl
theorem ff_7_6 : (am_ff 7).getD 6 true = false := rfl
theorem fk_7_7 : (am_fk 7).getD 7 9 = 2 := rfl
theorem ff_7_7 : (am_ff 7).getD 7 true = true := rfl
theorem fk_7_8 : (am_fk 7).getD 8 9 = 2 := rfl
theorem ff_7_8 : (am_ff 7).getD 8 true = true := rfl
theorem fk_7_9 : (am_fk 7).getD 9 9 = 2 := rfl
theorem ff_7_9 : (am_ff 7).getD 9 true = true := rfl
theorem fk_7_10 : (am_fk 7).getD 10 9 = 2 := rfl
theorem ff_7_10 : (am_ff 7).getD 10 true = true := rfl
theorem fk_7_11 : (am_fk 7).getD 11 9 = 2 := rfl
theorem ff_7_11 : (am_ff 7).getD 11 true = true := rfl
theorem fk_7_12 : (am_fk 7).getD 12 9 = 2 := rfl
theorem ff_7_12 : (am_ff 7).getD 12 true = true := rfl
theorem fk_7_13 : (am_fk 7).getD 13 9 = 2 := rfl
theorem ff_7_13 : (am_ff 7).getD 13 true = true := rfl
theorem fk_7_14 : (am_fk 7).getD 14 9 = 2 := rfl
theorem ff_7_14 : (am_ff 7).getD 14 true = true := rfl
theorem fk_7_15 : (am_fk 7).getD 15 9 = 2 := rfl
theorem ff_7_15 : (am_ff 7).getD 15 true = true := rfl
theorem fk_7_16 : (am_fk 7).getD 16 9 = 2 := rfl
theorem ff_7_16 : (am_ff 7).getD 16 true = true := rfl
theorem fk_7_17 : (am_fk 7).getD 17 9 = 0 := rfl
theorem ff_7_17 : (am_ff 7).getD 17 true = false := rfl
theorem fk_7_18 : (am_fk 7).getD 18 9 = 0 := rfl
theorem ff_7_18 : (am_ff 7).getD 18 true = false := rfl
theorem fk_7_19 : (am_fk 7).getD 19 9 = 2 := rfl
theorem ff_7_19 : (am_ff 7).getD 19 true = true := rfl
theorem fk_7_20 : (am_fk 7).getD 20 9 = 2 := rfl
theorem ff_7_20 : (am_ff 7).getD 20 true = true := rfl
theorem fk_7_21 : (am_fk 7).getD 21 9 = 2 := rfl
theorem ff_7_21 : (am_ff 7).getD 21 true = true := rfl
theorem fk_7_22 : (am_fk 7).getD 22 9 = 2 := rfl
theorem ff_7_22 : (am_ff 7).getD 22 true = true := rfl
theorem fk_7_23 : (am_fk 7).getD 23 9 = 2 := rfl
theorem ff_7_23 : (am_ff 7).getD 23 true = true := rfl
theorem fk_7_24 : (am_fk 7).getD 24 9 = 2 := rfl
theorem ff_7_24 : (am_ff 7).getD 24 true = true := rfl
theorem fk_7_25 : (am_fk 7).getD 25 9 = 2 := rfl
theorem ff_7_25 : (am_ff 7).getD 25 true = true := rfl
theorem fk_7_26 : (am_fk 7).getD 26 9 = 2 := rfl
theorem ff_7_26 : (am_ff 7).getD 26 true = true := rfl
theorem fk_7_27 : (am_fk 7).getD 27 9 = 2 := rfl
theorem ff_7_27 : (am_ff 7).getD 27 true = true := rfl
theorem fk_7_28 : (am_fk 7).getD 28 9 = 0 := rfl
theorem ff_7_28 : (am_ff 7).getD 28 true = false := rfl
theorem fk_7_29 : (am_fk 7).getD 29 9 = 0 := rfl
theorem ff_7_29 : (am_ff 7).getD 29 true = false := rfl
theorem fk_7_30 : (am_fk 7).getD 30 9 = 0 := rfl
theorem ff_7_30 : (am_ff 7).getD 30 true = false := rfl
theorem fk_7_31 : (am_fk 7).getD 31 9 = 0 := rfl
theorem ff_7_31 : (am_ff 7).getD 31 true = false := rfl
theorem fk_7_32 : (am_fk 7).getD 32 9 = 0 := rfl
theorem ff_7_32 : (am_ff 7).getD 32 true = false := rfl
theorem fk_7_33 : (am_fk 7).getD 33 9 = 0 := rfl
theorem ff_7_33 : (am_ff 7).getD 33 true = false := rfl
theorem fk_7_34 : (am_fk 7).getD 34 9 = 0 := rfl
theorem ff_7_34 : (am_ff 7).getD 34 true = false := rfl
theorem fk_7_35 : (am_fk 7).getD 35 9 = 0 := rfl
theorem ff_7_35 : (am_ff 7).getD 35 true = false := rfl
theorem fk_7_36 : (am_fk 7).getD 36 9 = 0 := rfl
theorem ff_7_36 : (am_ff 7).getD 36 true = false := rfl
theorem fk_7_37 : (am_fk 7).getD 37 9 = 2 := rfl
theorem ff_7_37 : (am_ff 7).getD 37 true = true := rfl
theorem fk_7_38 : (am_fk 7).getD 38 9 = 0 := rfl
theorem ff_7_38 : (am_ff 7).getD 38 true = false := rfl
theorem fk_7_39 : (am_fk 7).getD 39 9 = 2 := rfl
theorem ff_7_39 : (am_ff 7).getD 39 true = true := rfl
theorem fk_7_40 : (am_fk 7).getD 40 9 = 2 := rfl
theorem ff_7_40 : (am_ff 7).getD 40 true = true := rfl
theorem en_0 {d n : Nat} {h : am_H} {K : am_K} {a0 : Option Nat} (a : am_W 0 (n + 2) (am_M d) K 0 [some (Sum.inr (Sum.inr a0))] [] n h) : am_M (d + 1) 0 [Sum.inr (Sum.inr a0)] n h K := a
theorem en_1 {d n : Nat} {h : am_H} {K : am_K} {a0 : Option Nat} (a : am_W 1 (n + 0) (am_M d) K 0 [some (Sum.inr (Sum.inr a0))] [] n h) : am_M (d + 1) 1 [Sum.inr (Sum.inr a0)] n h K := a
theorem en_2 {d n : Nat} {h : am_H} {K : am_K} {a0 : Option Nat} {a1 : Option Nat} (a : am_W 2 (n + 0) (am_M d) K 0 [some (Sum.inr (Sum.inr a0)), some (Sum.inr (Sum.inr a1))] [] n h) : am_M (d + 1) 2 [Sum.inr (Sum.inr a0), Sum.inr (Sum.inr a1)] n h K := a
theorem en_3 {d n : Nat} {h : am_H} {K : am_K} {a0 : Option Nat} (a : am_W 3 (n + 5) (am_M d) K 0 [some (Sum.inr (Sum.inr a0))] [] n h) : am_M (d + 1) 3 [Sum.inr (Sum.inr a0)] n h K := a
theorem en_4 {d n : Nat} {h : am_H} {K : am_K} {a0 : Option Nat} {a1 : Option Nat} {a2 : Int} (a : am_W 4 (n + 0) (am_M d) K 0 [some (Sum.inr (Sum.inr a0)), some (Sum.inr (Sum.inr a1)), some (Sum.inl a2), none] [] n h) : am_M (d + 1) 4 [Sum.inr (Sum.inr a0), Sum.inr (Sum.inr a1), Sum.inl a2] n h K := a
theorem en_5 {d n : Nat} {h : am_H} {K : am_K} {a0 : Option Nat} {a1 : Int} (a : am_W 5 (n + 0) (am_M d) K 0 [some (Sum.inr (Sum.inr a0)), some (Sum.inl a1)] [] n h) : am_M (d + 1) 5 [Sum.inr (Sum.inr a0), Sum.inl a1] n h K := a
theorem en_6 {d n : Nat} {h : am_H} {K : am_K} {a0 : Option Nat} {a1 : Int} {a2 : Int} (a : am_W 6 (n + 0) (am_M d) K 0 [some (Sum.inr (Sum.inr a0)), some (Sum.inl a1), some (Sum.inl a2), none] [] n h) : am_M (d + 1) 6 [Sum.inr (Sum.inr a0), Sum.inl a1, Sum.inl a2] n h K := a
theorem en_7 {d n : Nat} {h : am_H} {K : am_K} {a0 : Option Nat} {a1 : Option Nat} {a2 : Int} {a3 : Int} (a : am_W 7 (n + 0) (am_M d) K 0 [some (Sum.inr (Sum.inr a0)), some (Sum.inr (Sum.inr a1)), some (Sum.inl a2), some (Sum.inl a3), none, none, none] [] n h) : am_M (d + 1) 7 [Sum.inr (Sum.inr a0), Sum.inr (Sum.inr a1), Sum.inl a2, Sum.inl a3] n h K := a
theorem en_8 {d n : Nat} {h : am_H} {K : am_K} {a0 : Option Nat} {a1 : Option Nat} {a2 : Int} {a3 : Int} (a : am_W 8 (n + 0) (am_M d) K 0 [some (Sum.inr (Sum.inr a0)), some (Sum.inr (Sum.inr a1)), some (Sum.inl a2), some (Sum.inl a3), none, none, none, none, none, none, none] [] n h) : am_M (d + 1) 8 [Sum.inr (Sum.inr a0), Sum.inr (Sum.inr a1), Sum.inl a2, Sum.inl a3] n h K := a
theorem en_9 {d n : Nat} {h : am_H} {K : am_K} {a0 : Int} {a1 : Int} {a2 : Int} (a : am_W 9 (n + 0) (am_M d) K 0 [some (Sum.inl a0), some (Sum.inl a1), some (Sum.inl a2), none] [] n h) : am_M (d + 1) 9 [Sum.inl a0, Sum.inl a1, Sum.inl a2] n h K := a
theorem en_10 {d n : Nat} {h : am_H} {K : am_K} {a0 : Option Nat} (a : am_W 10 (n + 0) (am_M d) K 0 [some (Sum.inr (Sum.inr a0)), none, none] [] n h) : am_M (d + 1) 10 [Sum.inr (Sum.inr a0)] n h K := a
theorem en_11 {d n : Nat} {h : am_H} {K : am_K} {a0 : Option Nat} {a1 : Int} (a : am_W 11 (n + 0) (am_M d) K 0 [some (Sum.inr (Sum.inr a0)), some (Sum.inl a1), none, none] [] n h) : am_M (d + 1) 11 [Sum.inr (Sum.inr a0), Sum.inl a1] n h K := a
theorem en_12 {d n : Nat} {h : am_H} {K : am_K} {a0 : Option Nat} (a : am_W 12 (n + 0) (am_M d) K 0 [some (Sum.inr (Sum.inr a0)), none, none] [] n h) : am_M (d + 1) 12 [Sum.inr (Sum.inr a0)] n h K := a
theorem en_13 {d n : Nat} {h : am_H} {K : am_K} {a0 : Option Nat} {a1 : Option Nat} (a : am_W 13 (n + 0) (am_M d) K 0 [some (Sum.inr (Sum.inr a0)), some (Sum.inr (Sum.inr a1)), none, none, none] [] n h) : am_M (d + 1) 13 [Sum.inr (Sum.inr a0), Sum.inr (Sum.inr a1)] n h K := a
theorem en_14 {d n : Nat} {h : am_H} {K : am_K} {a0 : Option Nat} {a1 : Option Nat} {a2 : Int} (a : am_W 14 (n + 0) (am_M d) K 0 [some (Sum.inr (Sum.inr a0)), some (Sum.inr (Sum.inr a1)), some (Sum.inl a2), none, none] [] n h) : am_M (d + 1) 14 [Sum.inr (Sum.inr a0), Sum.inr (Sum.inr a1), Sum.inl a2] n h K := a
theorem en_15 {d n : Nat} {h : am_H} {K : am_K} {a0 : Option Nat} {a1 : Int} (a : am_W 15 (n + 0) (am_M d) K 0 [some (Sum.inr (Sum.inr a0)), some (Sum.inl a1), none, none, none] [] n h) : am_M (d + 1) 15 [Sum.inr (Sum.inr a0), Sum.inl a1] n h K := a
theorem en_16 {d n : Nat} {h : am_H} {K : am_K} {a0 : Option Nat} (a : am_W 16 (n + 1) (am_M d) K 0 [some (Sum.inr (Sum.inr a0))] [] n h) : am_M (d + 1) 16 [Sum.inr (Sum.inr a0)] n h K := a
theorem en_17 {d n : Nat} {h : am_H} {K : am_K} {a0 : Option Nat} {a1 : Int} {a2 : Int} (a : am_W 17 (n + 0) (am_M d) K 0 [some (Sum.inr (Sum.inr a0)), some (Sum.inl a1), some (Sum.inl a2), none] [] n h) : am_M (d + 1) 17 [Sum.inr (Sum.inr a0), Sum.inl a1, Sum.inl a2] n h K := a
theorem en_18 {d n : Nat} {h : am_H} {K : am_K} {a0 : Option Nat} (a : am_W 18 (n + 0) (am_M d) K 0 [some (Sum.inr (Sum.inr a0)), none] [] n h) : am_M (d + 1) 18 [Sum.inr (Sum.inr a0)] n h K := a
theorem en_19 {d n : Nat} {h : am_H} {K : am_K} {a0 : Option Nat} {a1 : Int} (a : am_W 19 (n + 0) (am_M d) K 0 [some (Sum.inr (Sum.inr a0)), some (Sum.inl a1)] [] n h) : am_M (d + 1) 19 [Sum.inr (Sum.inr a0), Sum.inl a1] n h K := a
theorem en_20 {d n : Nat} {h : am_H} {K : am_K} {a0 : Option Nat} {a1 : Int} (a : am_W 20 (n + 0) (am_M d) K 0 [some (Sum.inr (Sum.inr a0)), some (Sum.inl a1)] [] n h) : am_M (d + 1) 20 [Sum.inr (Sum.inr a0), Sum.inl a1] n h K := a
theorem en_21 {d n : Nat} {h : am_H} {K : am_K} {a0 : Option Nat} {a1 : Int} {a2 : Int} (a : am_W 21 (n + 0) (am_M d) K 0 [some (Sum.inr (Sum.inr a0)), some (Sum.inl a1), some (Sum.inl a2)] [] n h) : am_M (d + 1) 21 [Sum.inr (Sum.inr a0), Sum.inl a1, Sum.inl a2] n h K := a
theorem en_22 {d n : Nat} {h : am_H} {K : am_K} {a0 : Option Nat} {a1 : Int} (a : am_W 22 (n + 0) (am_M d) K 0 [some (Sum.inr (Sum.inr a0)), some (Sum.inl a1)] [] n h) : am_M (d + 1) 22 [Sum.inr (Sum.inr a0), Sum.inl a1] n h K := a
theorem en_23 {d n : Nat} {h : am_H} {K : am_K} {a0 : Int} {a1 : Int} (a : am_W 23 (n + 0) (am_M d) K 0 [some (Sum.inl a0), some (Sum.inl a1)] [] n h) : am_M (d + 1) 23 [Sum.inl a0, Sum.inl a1] n h K := a
theorem en_24 {d n : Nat} {h : am_H} {K : am_K} {a0 : Int} {a1 : Int} {a2 : Int} (a : am_W 24 (n + 0) (am_M d) K 0 [some (Sum.inl a0), some (Sum.inl a1), some (Sum.inl a2)] [] n h) : am_M (d + 1) 24 [Sum.inl a0, Sum.inl a1, Sum.inl a2] n h K := a
theorem en_25 {d n : Nat} {h : am_H} {K : am_K} {a0 : Int} (a : am_W 25 (n + 0) (am_M d) K 0 [some (Sum.inl a0)] [] n h) : am_M (d + 1) 25 [Sum.inl a0] n h K := a
theorem en_26 {d n : Nat} {h : am_H} {K : am_K} {a0 : Int} (a : am_W 26 (n + 0) (am_M d) K 0 [some (Sum.inl a0)] [] n h) : am_M (d + 1) 26 [Sum.inl a0] n h K := a
theorem en_27 {d n : Nat} {h : am_H} {K : am_K} {a0 : Int} {a1 : Int} {a2 : Int} (a : am_W 27 (n + 0) (am_M d) K 0 [some (Sum.inl a0), some (Sum.inl a1), some (Sum.inl a2)] [] n h) : am_M (d + 1) 27 [Sum.inl a0, Sum.inl a1, Sum.inl a2] n h K := a
theorem en_28 {d n : Nat} {h : am_H} {K : am_K} {a0 : Option Nat} (a : am_W 28 (n + 0) (am_M d) K 0 [some (Sum.inr (Sum.inr a0))] [] n h) : am_M (d + 1) 28 [Sum.inr (Sum.inr a0)] n h K := a
theorem en_29 {d n : Nat} {h : am_H} {K : am_K} {a0 : Option Nat} {a1 : Int} {a2 : Int} {a3 : Int} {a4 : Int} (a : am_W 29 (n + 0) (am_M d) K 0 [some (Sum.inr (Sum.inr a0)), some (Sum.inl a1), some (Sum.inl a2), some (Sum.inl a3), some (Sum.inl a4)] [] n h) : am_M (d + 1) 29 [Sum.inr (Sum.inr a0), Sum.inl a1, Sum.inl a2, Sum.inl a3, Sum.inl a4] n h K := a
theorem en_30 {d n : Nat} {h : am_H} {K : am_K} {a0 : Option Nat} (a : am_W 30 (n + 0) (am_M d) K 0 [some (Sum.inr (Sum.inr a0))] [] n h) : am_M (d + 1) 30 [Sum.inr (Sum.inr a0)] n h K := a
theorem en_31 {d n : Nat} {h : am_H} {K : am_K} {a0 : Option Nat} {a1 : Option Nat} {a2 : Option Nat} {a3 : Int} {a4 : Int} (a : am_W 31 (n + 0) (am_M d) K 0 [some (Sum.inr (Sum.inr a0)), some (Sum.inr (Sum.inr a1)), some (Sum.inr (Sum.inr a2)), some (Sum.inl a3), some (Sum.inl a4), none] [] n h) : am_M (d + 1) 31 [Sum.inr (Sum.inr a0), Sum.inr (Sum.inr a1), Sum.inr (Sum.inr a2), Sum.inl a3, Sum.inl a4] n h K := a
theorem en_32 {d n : Nat} {h : am_H} {K : am_K} {a0 : Option Nat} {a1 : Option Nat} (a : am_W 32 (n + 0) (am_M d) K 0 [some (Sum.inr (Sum.inr a0)), some (Sum.inr (Sum.inr a1)), none, none, none, none] [] n h) : am_M (d + 1) 32 [Sum.inr (Sum.inr a0), Sum.inr (Sum.inr a1)] n h K := a
theorem en_33 {d n : Nat} {h : am_H} {K : am_K} {a0 : Option Nat} (a : am_W 33 (n + 0) (am_M d) K 0 [some (Sum.inr (Sum.inr a0))] [] n h) : am_M (d + 1) 33 [Sum.inr (Sum.inr a0)] n h K := a
theorem en_34 {d n : Nat} {h : am_H} {K : am_K} {a0 : Option Nat} {a1 : Option Nat} {a2 : Int} (a : am_W 34 (n + 0) (am_M d) K 0 [some (Sum.inr (Sum.inr a0)), some (Sum.inr (Sum.inr a1)), some (Sum.inl a2), none] [] n h) : am_M (d + 1) 34 [Sum.inr (Sum.inr a0), Sum.inr (Sum.inr a1), Sum.inl a2] n h K := a
theorem en_35 {d n : Nat} {h : am_H} {K : am_K} {a0 : Option Nat} (a : am_W 35 (n + 0) (am_M d) K 0 [some (Sum.inr (Sum.inr a0)), none, none] [] n h) : am_M (d + 1) 35 [Sum.inr (Sum.inr a0)] n h K := a
theorem en_36 {d n : Nat} {h : am_H} {K : am_K} {a0 : Option Nat} {a1 : Option Nat} {a2 : Int} (a : am_W 36 (n + 0) (am_M d) K 0 [some (Sum.inr (Sum.inr a0)), some (Sum.inr (Sum.inr a1)), some (Sum.inl a2), none, none] [] n h) : am_M (d + 1) 36 [Sum.inr (Sum.inr a0), Sum.inr (Sum.inr a1), Sum.inl a2] n h K := a
theorem en_37 {d n : Nat} {h : am_H} {K : am_K} {a0 : Option Nat} (a : am_W 37 (n + 0) (am_M d) K 0 [some (Sum.inr (Sum.inr a0))] [] n h) : am_M (d + 1) 37 [Sum.inr (Sum.inr a0)] n h K := a
theorem en_38 {d n : Nat} {h : am_H} {K : am_K} {a0 : Option Nat} {a1 : Int} {a2 : Int} (a : am_W 38 (n + 0) (am_M d) K 0 [some (Sum.inr (Sum.inr a0)), some (Sum.inl a1), some (Sum.inl a2), none] [] n h) : am_M (d + 1) 38 [Sum.inr (Sum.inr a0), Sum.inl a1, Sum.inl a2] n h K := a
theorem en_39 {d n : Nat} {h : am_H} {K : am_K} {a0 : Option Nat} {a1 : Int} (a : am_W 39 (n + 0) (am_M d) K 0 [some (Sum.inr (Sum.inr a0)), some (Sum.inl a1), none] [] n h) : am_M (d + 1) 39 [Sum.inr (Sum.inr a0), Sum.inl a1] n h K := a
theorem en_40 {d n : Nat} {h : am_H} {K : am_K} {a0 : Option Nat} (a : am_W 40 (n + 18) (am_M d) K 0 [some (Sum.inr (Sum.inr a0)), none] [] n h) : am_M (d + 1) 40 [Sum.inr (Sum.inr a0)] n h K := a
theorem en_41 {d n : Nat} {h : am_H} {K : am_K} {a0 : Option Nat} (a : am_W 41 (n + 0) (am_M d) K 0 [some (Sum.inr (Sum.inr a0)), none] [] n h) : am_M (d + 1) 41 [Sum.inr (Sum.inr a0)] n h K := a
theorem en_42 {d n : Nat} {h : am_H} {K : am_K} {a0 : Option Nat} {a1 : Option Nat} (a : am_W 42 (n + 0) (am_M d) K 0 [some (Sum.inr (Sum.inr a0)), some (Sum.inr (Sum.inr a1)), none, none] [] n h) : am_M (d + 1) 42 [Sum.inr (Sum.inr a0), Sum.inr (Sum.inr a1)] n h K := a
theorem en_43 {d n : Nat} {h : am_H} {K : am_K} {a0 : Option Nat} {a1 : Int} (a : am_W 43 (n + 0) (am_M d) K 0 [some (Sum.inr (Sum.inr a0)), some (Sum.inl a1)] [] n h) : am_M (d + 1) 43 [Sum.inr (Sum.inr a0), Sum.inl a1] n h K := a
theorem en_44 {d n : Nat} {h : am_H} {K : am_K} {a0 : Option Nat} {a1 : Int} (a : am_W 44 (n + 0) (am_M d) K 0 [some (Sum.inr (Sum.inr a0)), some (Sum.inl a1)] [] n h) : am_M (d + 1) 44 [Sum.inr (Sum.inr a0), Sum.inl a1] n h K := a
theorem en_45 {d n : Nat} {h : am_H} {K : am_K} {a0 : Option Nat} {a1 : Int} {a2 : Int} {a3 : Int} {a4 : Int} (a : am_W 45 (n + 0) (am_M d) K 0 [some (Sum.inr (Sum.inr a0)), some (Sum.inl a1), some (Sum.inl a2), some (Sum.inl a3), some (Sum.inl a4)] [] n h) : am_M (d + 1) 45 [Sum.inr (Sum.inr a0), Sum.inl a1, Sum.inl a2, Sum.inl a3, Sum.inl a4] n h K := a
theorem en_46 {d n : Nat} {h : am_H} {K : am_K} {a0 : Option Nat} (a : am_W 46 (n + 0) (am_M d) K 0 [some (Sum.inr (Sum.inr a0))] [] n h) : am_M (d + 1) 46 [Sum.inr (Sum.inr a0)] n h K := a
theorem en_47 {d n : Nat} {h : am_H} {K : am_K} {a0 : Option Nat} {a1 : Int} {a2 : Int} (a : am_W 47 (n + 0) (am_M d) K 0 [some (Sum.inr (Sum.inr a0)), some (Sum.inl a1), some (Sum.inl a2), none] [] n h) : am_M (d + 1) 47 [Sum.inr (Sum.inr a0), Sum.inl a1, Sum.inl a2] n h K := a
theorem en_48 {d n : Nat} {h : am_H} {K : am_K} {a0 : Option Nat} (a : am_W 48 (n + 0) (am_M d) K 0 [some (Sum.inr (Sum.inr a0)), none, none] [] n h) : am_M (d + 1) 48 [Sum.inr (Sum.inr a0)] n h K := a
theorem en_49 {d n : Nat} {h : am_H} {K : am_K} {a0 : Option Nat} (a : am_W 49 (n + 0) (am_M d) K 0 [some (Sum.inr (Sum.inr a0)), none, none] [] n h) : am_M (d + 1) 49 [Sum.inr (Sum.inr a0)] n h K := a
theorem en_50 {d n : Nat} {h : am_H} {K : am_K} {a0 : Option Nat} {a1 : Int} (a : am_W 50 (n + 0) (am_M d) K 0 [some (Sum.inr (Sum.inr a0)), some (Sum.inl a1), none, none] [] n h) : am_M (d + 1) 50 [Sum.inr (Sum.inr a0), Sum.inl a1] n h K := a
theorem en_51 {d n : Nat} {h : am_H} {K : am_K} {a0 : Option Nat} {a1 : Int} (a : am_W 51 (n + 0) (am_M d) K 0 [some (Sum.inr (Sum.inr a0)), some (Sum.inl a1), none, none, none] [] n h) : am_M (d + 1) 51 [Sum.inr (Sum.inr a0), Sum.inl a1] n h K := a
theorem en_52 {d n : Nat} {h : am_H} {K : am_K} {a0 : Option Nat} (a : am_W 52 (n + 56) (am_M d) K 0 [some (Sum.inr (Sum.inr a0)), none] [] n h) : am_M (d + 1) 52 [Sum.inr (Sum.inr a0)] n h K := a
theorem en_53 {d n : Nat} {h : am_H} {K : am_K} {a0 : Option Nat} {a1 : Int} {a2 : Int} {a3 : Int} {a4 : Int} (a : am_W 53 (n + 0) (am_M d) K 0 [some (Sum.inr (Sum.inr a0)), some (Sum.inl a1), some (Sum.inl a2), some (Sum.inl a3), some (Sum.inl a4), none, none, none] [] n h) : am_M (d + 1) 53 [Sum.inr (Sum.inr a0), Sum.inl a1, Sum.inl a2, Sum.inl a3, Sum.inl a4] n h K := a
theorem en_54 {d n : Nat} {h : am_H} {K : am_K} {a0 : Option Nat} {a1 : Int} {a2 : Int} (a : am_W 54 (n + 0) (am_M d) K 0 [some (Sum.inr (Sum.inr a0)), some (Sum.inl a1), some (Sum.inl a2), none] [] n h) : am_M (d + 1) 54 [Sum.inr (Sum.inr a0), Sum.inl a1, Sum.inl a2] n h K := a
theorem en_55 {d n : Nat} {h : am_H} {K : am_K} {a0 : Option Nat} {a1 : Int} (a : am_W 55 (n + 0) (am_M d) K 0 [some (Sum.inr (Sum.inr a0)), some (Sum.inl a1)] [] n h) : am_M (d + 1) 55 [Sum.inr (Sum.inr a0), Sum.inl a1] n h K := a
theorem en_56 {d n : Nat} {h : am_H} {K : am_K} {a0 : Option Nat} {a1 : Int} (a : am_W 56 (n + 0) (am_M d) K 0 [some (Sum.inr (Sum.inr a0)), some (Sum.inl a1)] [] n h) : am_M (d + 1) 56 [Sum.inr (Sum.inr a0), Sum.inl a1] n h K := a
theorem en_57 {d n : Nat} {h : am_H} {K : am_K} {a0 : Option Nat} {a1 : Int} {a2 : Int} {a3 : Int} (a : am_W 57 (n + 0) (am_M d) K 0 [some (Sum.inr (Sum.inr a0)), some (Sum.inl a1), some (Sum.inl a2), some (Sum.inl a3)] [] n h) : am_M (d + 1) 57 [Sum.inr (Sum.inr a0), Sum.inl a1, Sum.inl a2, Sum.inl a3] n h K := a
theorem en_58 {d n : Nat} {h : am_H} {K : am_K} {a0 : Option Nat} (a : am_W 58 (n + 0) (am_M d) K 0 [some (Sum.inr (Sum.inr a0))] [] n h) : am_M (d + 1) 58 [Sum.inr (Sum.inr a0)] n h K := a
theorem en_59 {d n : Nat} {h : am_H} {K : am_K} {a0 : Option Nat} {a1 : Int} {a2 : Int} (a : am_W 59 (n + 0) (am_M d) K 0 [some (Sum.inr (Sum.inr a0)), some (Sum.inl a1), some (Sum.inl a2), none] [] n h) : am_M (d + 1) 59 [Sum.inr (Sum.inr a0), Sum.inl a1, Sum.inl a2] n h K := a
theorem en_60 {d n : Nat} {h : am_H} {K : am_K} {a0 : Option Nat} {a1 : Int} {a2 : Int} (a : am_W 60 (n + 0) (am_M d) K 0 [some (Sum.inr (Sum.inr a0)), some (Sum.inl a1), some (Sum.inl a2), none, none] [] n h) : am_M (d + 1) 60 [Sum.inr (Sum.inr a0), Sum.inl a1, Sum.inl a2] n h K := a
theorem en_61 {d n : Nat} {h : am_H} {K : am_K} {a0 : Option Nat} {a1 : Int} {a2 : Int} (a : am_W 61 (n + 0) (am_M d) K 0 [some (Sum.inr (Sum.inr a0)), some (Sum.inl a1), some (Sum.inl a2), none] [] n h) : am_M (d + 1) 61 [Sum.inr (Sum.inr a0), Sum.inl a1, Sum.inl a2] n h K := a
theorem en_62 {d n : Nat} {h : am_H} {K : am_K} {a0 : Option Nat} {a1 : Int} {a2 : Int} (a : am_W 62 (n + 0) (am_M d) K 0 [some (Sum.inr (Sum.inr a0)), some (Sum.inl a1), some (Sum.inl a2)] [] n h) : am_M (d + 1) 62 [Sum.inr (Sum.inr a0), Sum.inl a1, Sum.inl a2] n h K := a
theorem en_63 {d n : Nat} {h : am_H} {K : am_K} {a0 : Option Nat} {a1 : Int} {a2 : Int} (a : am_W 63 (n + 0) (am_M d) K 0 [some (Sum.inr (Sum.inr a0)), some (Sum.inl a1), some (Sum.inl a2)] [] n h) : am_M (d + 1) 63 [Sum.inr (Sum.inr a0), Sum.inl a1, Sum.inl a2] n h K := a
theorem en_64 {d n : Nat} {h : am_H} {K : am_K} {a0 : Option Nat} {a1 : Int} {a2 : Int} {a3 : Int} (a : am_W 64 (n + 0) (am_M d) K 0 [some (Sum.inr (Sum.inr a0)), some (Sum.inl a1), some (Sum.inl a2), some (Sum.inl a3), none, none] [] n h) : am_M (d + 1) 64 [Sum.inr (Sum.inr a0), Sum.inl a1, Sum.inl a2, Sum.inl a3] n h K := a
theorem en_65 {d n : Nat} {h : am_H} {K : am_K} {a0 : Option Nat} {a1 : Int} {a2 : Int} {a3 : Int} {a4 : Int} {a5 : Int} (a : am_W 65 (n + 0) (am_M d) K 0 [some (Sum.inr (Sum.inr a0)), some (Sum.inl a1), some (Sum.inl a2), some (Sum.inl a3), some (Sum.inl a4), some (Sum.inl a5), none, none, none] [] n h) : am_M (d + 1) 65 [Sum.inr (Sum.inr a0), Sum.inl a1, Sum.inl a2, Sum.inl a3, Sum.inl a4, Sum.inl a5] n h K := a
theorem en_66 {d n : Nat} {h : am_H} {K : am_K} {a0 : Option Nat} {a1 : Int} {a2 : Int} (a : am_W 66 (n + 0) (am_M d) K 0 [some (Sum.inr (Sum.inr a0)), some (Sum.inl a1), some (Sum.inl a2)] [] n h) : am_M (d + 1) 66 [Sum.inr (Sum.inr a0), Sum.inl a1, Sum.inl a2] n h K := a
theorem en_67 {d n : Nat} {h : am_H} {K : am_K} {a0 : Option Nat} {a1 : Int} (a : am_W 67 (n + 0) (am_M d) K 0 [some (Sum.inr (Sum.inr a0)), some (Sum.inl a1)] [] n h) : am_M (d + 1) 67 [Sum.inr (Sum.inr a0), Sum.inl a1] n h K := a
theorem en_68 {d n : Nat} {h : am_H} {K : am_K} {a0 : Option Nat} {a1 : Int} (a : am_W 68 (n + 0) (am_M d) K 0 [some (Sum.inr (Sum.inr a0)), some (Sum.inl a1), none, none] [] n h) : am_M (d + 1) 68 [Sum.inr (Sum.inr a0), Sum.inl a1] n h K := a
theorem en_69 {d n : Nat} {h : am_H} {K : am_K} {a0 : Option Nat} {a1 : Int} (a : am_W 69 (n + 0) (am_M d) K 0 [some (Sum.inr (Sum.inr a0)), some (Sum.inl a1), none, none] [] n h) : am_M (d + 1) 69 [Sum.inr (Sum.inr a0), Sum.inl a1] n h K := a
theorem en_70 {d n : Nat} {h : am_H} {K : am_K} {a0 : Option Nat} {a1 : Int} {a2 : Int} {a3 : Int} (a : am_W 70 (n + 0) (am_M d) K 0 [some (Sum.inr (Sum.inr a0)), some (Sum.inl a1), some (Sum.inl a2), some (Sum.inl a3), none, none, none, none] [] n h) : am_M (d + 1) 70 [Sum.inr (Sum.inr a0), Sum.inl a1, Sum.inl a2, Sum.inl a3] n h K := a
theorem en_71 {d n : Nat} {h : am_H} {K : am_K} {a0 : Option Nat} {a1 : Int} {a2 : Int} {a3 : Int} (a : am_W 71 (n + 0) (am_M d) K 0 [some (Sum.inr (Sum.inr a0)), some (Sum.inl a1), some (Sum.inl a2), some (Sum.inl a3), none] [] n h) : am_M (d + 1) 71 [Sum.inr (Sum.inr a0), Sum.inl a1, Sum.inl a2, Sum.inl a3] n h K := a
theorem en_72 {d n : Nat} {h : am_H} {K : am_K} {a0 : Option Nat} {a1 : Int} (a : am_W 72 (n + 0) (am_M d) K 0 [some (Sum.inr (Sum.inr a0)), some (Sum.inl a1), none] [] n h) : am_M (d + 1) 72 [Sum.inr (Sum.inr a0), Sum.inl a1] n h K := a
theorem en_73 {d n : Nat} {h : am_H} {K : am_K} {a0 : Option Nat} {a1 : Int} {a2 : Int} {a3 : Int} (a : am_W 73 (n + 0) (am_M d) K 0 [some (Sum.inr (Sum.inr a0)), some (Sum.inl a1), some (Sum.inl a2), some (Sum.inl a3), none] [] n h) : am_M (d + 1) 73 [Sum.inr (Sum.inr a0), Sum.inl a1, Sum.inl a2, Sum.inl a3] n h K := a
theorem en_74 {d n : Nat} {h : am_H} {K : am_K} {a0 : Option Nat} {a1 : Int} {a2 : Int} {a3 : Int} (a : am_W 74 (n + 0) (am_M d) K 0 [some (Sum.inr (Sum.inr a0)), some (Sum.inl a1), some (Sum.inl a2), some (Sum.inl a3), none, none] [] n h) : am_M (d + 1) 74 [Sum.inr (Sum.inr a0), Sum.inl a1, Sum.inl a2, Sum.inl a3] n h K := a
theorem en_75 {d n : Nat} {h : am_H} {K : am_K} {a0 : Option Nat} {a1 : Int} {a2 : Int} {a3 : Int} {a4 : Int} {a5 : Int} (a : am_W 75 (n + 0) (am_M d) K 0 [some (Sum.inr (Sum.inr a0)), some (Sum.inl a1), some (Sum.inl a2), some (Sum.inl a3), some (Sum.inl a4), some (Sum.inl a5), none, none] [] n h) : am_M (d + 1) 75 [Sum.inr (Sum.inr a0), Sum.inl a1, Sum.inl a2, Sum.inl a3, Sum.inl a4, Sum.inl a5] n h K := a
theorem en_76 {d n : Nat} {h : am_H} {K : am_K} {a0 : Option Nat} {a1 : Int} (a : am_W 76 (n + 0) (am_M d) K 0 [some (Sum.inr (Sum.inr a0)), some (Sum.inl a1), none] [] n h) : am_M (d + 1) 76 [Sum.inr (Sum.inr a0), Sum.inl a1] n h K := a
theorem en_77 {d n : Nat} {h : am_H} {K : am_K} {a0 : Option Nat} {a1 : Int} (a : am_W 77 (n + 0) (am_M d) K 0 [some (Sum.inr (Sum.inr a0)), some (Sum.inl a1), none] [] n h) : am_M (d + 1) 77 [Sum.inr (Sum.inr a0), Sum.inl a1] n h K := a
theorem en_78 {d n : Nat} {h : am_H} {K : am_K} {a0 : Option Nat} {a1 : Int} {a2 : Int} (a : am_W 78 (n + 0) (am_M d) K 0 [some (Sum.inr (Sum.inr a0)), some (Sum.inl a1), some (Sum.inl a2), none] [] n h) : am_M (d + 1) 78 [Sum.inr (Sum.inr a0), Sum.inl a1, Sum.inl a2] n h K := a
theorem en_79 {d n : Nat} {h : am_H} {K : am_K} {a0 : Option Nat} (a : am_W 79 (n + 0) (am_M d) K 0 [some (Sum.inr (Sum.inr a0))] [] n h) : am_M (d + 1) 79 [Sum.inr (Sum.inr a0)] n h K := a
theorem en_80 {d n : Nat} {h : am_H} {K : am_K} {a0 : Option Nat} (a : am_W 80 (n + 0) (am_M d) K 0 [some (Sum.inr (Sum.inr a0))] [] n h) : am_M (d + 1) 80 [Sum.inr (Sum.inr a0)] n h K := a
theorem en_81 {d n : Nat} {h : am_H} {K : am_K} {a0 : Option Nat} {a1 : Int} (a : am_W 81 (n + 0) (am_M d) K 0 [some (Sum.inr (Sum.inr a0)), some (Sum.inl a1)] [] n h) : am_M (d + 1) 81 [Sum.inr (Sum.inr a0), Sum.inl a1] n h K := a
theorem en_82 {d n : Nat} {h : am_H} {K : am_K} {a0 : Int} {a1 : Int} (a : am_W 82 (n + 0) (am_M d) K 0 [some (Sum.inl a0), some (Sum.inl a1)] [] n h) : am_M (d + 1) 82 [Sum.inl a0, Sum.inl a1] n h K := a
theorem en_83 {d n : Nat} {h : am_H} {K : am_K} {a0 : Int} (a : am_W 83 (n + 0) (am_M d) K 0 [some (Sum.inl a0)] [] n h) : am_M (d + 1) 83 [Sum.inl a0] n h K := a
theorem en_84 {d n : Nat} {h : am_H} {K : am_K} {a0 : Option Nat} {a1 : Int} (a : am_W 84 (n + 0) (am_M d) K 0 [some (Sum.inr (Sum.inr a0)), some (Sum.inl a1)] [] n h) : am_M (d + 1) 84 [Sum.inr (Sum.inr a0), Sum.inl a1] n h K := a
theorem en_85 {d n : Nat} {h : am_H} {K : am_K} {a0 : Option Nat} {a1 : Int} (a : am_W 85 (n + 0) (am_M d) K 0 [some (Sum.inr (Sum.inr a0)), some (Sum.inl a1)] [] n h) : am_M (d + 1) 85 [Sum.inr (Sum.inr a0), Sum.inl a1] n h K := a
theorem en_86 {d n : Nat} {h : am_H} {K : am_K} {a0 : Option Nat} {a1 : Int} {a2 : Int} {a3 : Int} (a : am_W 86 (n + 0) (am_M d) K 0 [some (Sum.inr (Sum.inr a0)), some (Sum.inl a1), some (Sum.inl a2), some (Sum.inl a3)] [] n h) : am_M (d + 1) 86 [Sum.inr (Sum.inr a0), Sum.inl a1, Sum.inl a2, Sum.inl a3] n h K := a
theorem en_87 {d n : Nat} {h : am_H} {K : am_K} {a0 : Option Nat} {a1 : Int} (a : am_W 87 (n + 0) (am_M d) K 0 [some (Sum.inr (Sum.inr a0)), some (Sum.inl a1), none, none] [] n h) : am_M (d + 1) 87 [Sum.inr (Sum.inr a0), Sum.inl a1] n h K := a
theorem en_88 {d n : Nat} {h : am_H} {K : am_K} {a0 : Option Nat} {a1 : Option Nat} (a : am_W 88 (n + 0) (am_M d) K 0 [some (Sum.inr (Sum.inr a0)), some (Sum.inr (Sum.inr a1)), none] [] n h) : am_M (d + 1) 88 [Sum.inr (Sum.inr a0), Sum.inr (Sum.inr a1)] n h K := a
theorem en_89 {d n : Nat} {h : am_H} {K : am_K} {a0 : Int} (a : am_W 89 (n + 0) (am_M d) K 0 [some (Sum.inl a0)] [] n h) : am_M (d + 1) 89 [Sum.inl a0] n h K := a
theorem en_90 {d n : Nat} {h : am_H} {K : am_K} {a0 : Int} (a : am_W 90 (n + 0) (am_M d) K 0 [some (Sum.inl a0)] [] n h) : am_M (d + 1) 90 [Sum.inl a0] n h K := a
theorem en_91 {d n : Nat} {h : am_H} {K : am_K} {a0 : Option Nat} {a1 : Int} {a2 : Int} (a : am_W 91 (n + 0) (am_M d) K 0 [some (Sum.inr (Sum.inr a0)), some (Sum.inl a1), some (Sum.inl a2), none] [] n h) : am_M (d + 1) 91 [Sum.inr (Sum.inr a0), Sum.inl a1, Sum.inl a2] n h K := a
theorem en_92 {d n : Nat} {h : am_H} {K : am_K} {a0 : Int} {a1 : Int} (a : am_W 92 (n + 0) (am_M d) K 0 [some (Sum.inl a0), some (Sum.inl a1)] [] n h) : am_M (d + 1) 92 [Sum.inl a0, Sum.inl a1] n h K := a
theorem en_93 {d n : Nat} {h : am_H} {K : am_K} {a0 : Option Nat} {a1 : Option Nat} {a2 : Int} {a3 : Int} (a : am_W 93 (n + 0) (am_M d) K 0 [some (Sum.inr (Sum.inr a0)), some (Sum.inr (Sum.inr a1)), some (Sum.inl a2), some (Sum.inl a3), none] [] n h) : am_M (d + 1) 93 [Sum.inr (Sum.inr a0), Sum.inr (Sum.inr a1), Sum.inl a2, Sum.inl a3] n h K := a
theorem en_94 {d n : Nat} {h : am_H} {K : am_K} {a0 : Option Nat} {a1 : Int} (a : am_W 94 (n + 0) (am_M d) K 0 [some (Sum.inr (Sum.inr a0)), some (Sum.inl a1)] [] n h) : am_M (d + 1) 94 [Sum.inr (Sum.inr a0), Sum.inl a1] n h K := a
theorem en_95 {d n : Nat} {h : am_H} {K : am_K} {a0 : Option Nat} {a1 : Option Nat} (a : am_W 95 (n + 0) (am_M d) K 0 [some (Sum.inr (Sum.inr a0)), some (Sum.inr (Sum.inr a1))] [] n h) : am_M (d + 1) 95 [Sum.inr (Sum.inr a0), Sum.inr (Sum.inr a1)] n h K := a
theorem en_96 {d n : Nat} {h : am_H} {K : am_K} {a0 : Option Nat} {a1 : Option Nat} (a : am_W 96 (n + 0) (am_M d) K 0 [some (Sum.inr (Sum.inr a0)), some (Sum.inr (Sum.inr a1))] [] n h) : am_M (d + 1) 96 [Sum.inr (Sum.inr a0), Sum.inr (Sum.inr a1)] n h K := a
theorem en_97 {d n : Nat} {h : am_H} {K : am_K} {a0 : Option Nat} {a1 : Option Nat} (a : am_W 97 (n + 0) (am_M d) K 0 [some (Sum.inr (Sum.inr a0)), some (Sum.inr (Sum.inr a1))] [] n h) : am_M (d + 1) 97 [Sum.inr (Sum.inr a0), Sum.inr (Sum.inr a1)] n h K := a
theorem en_98 {d n : Nat} {h : am_H} {K : am_K} {a0 : Option Nat} {a1 : Int} (a : am_W 98 (n + 0) (am_M d) K 0 [some (Sum.inr (Sum.inr a0)), some (Sum.inl a1)] [] n h) : am_M (d + 1) 98 [Sum.inr (Sum.inr a0), Sum.inl a1] n h K := a
theorem en_99 {d n : Nat} {h : am_H} {K : am_K} {a0 : Option Nat} (a : am_W 99 (n + 25) (am_M d) K 0 [some (Sum.inr (Sum.inr a0))] [] n h) : am_M (d + 1) 99 [Sum.inr (Sum.inr a0)] n h K := a
theorem en_100 {d n : Nat} {h : am_H} {K : am_K} {a0 : Option Nat} {a1 : Int} (a : am_W 100 (n + 0) (am_M d) K 0 [some (Sum.inr (Sum.inr a0)), some (Sum.inl a1)] [] n h) : am_M (d + 1) 100 [Sum.inr (Sum.inr a0), Sum.inl a1] n h K := a
theorem en_101 {d n : Nat} {h : am_H} {K : am_K} {a0 : Option Nat} {a1 : Int} (a : am_W 101 (n + 0) (am_M d) K 0 [some (Sum.inr (Sum.inr a0)), some (Sum.inl a1)] [] n h) : am_M (d + 1) 101 [Sum.inr (Sum.inr a0), Sum.inl a1] n h K := a
theorem en_102 {d n : Nat} {h : am_H} {K : am_K} {a0 : Int} {a1 : Int} {a2 : Int} (a : am_W 102 (n + 0) (am_M d) K 0 [some (Sum.inl a0), some (Sum.inl a1), some (Sum.inl a2)] [] n h) : am_M (d + 1) 102 [Sum.inl a0, Sum.inl a1, Sum.inl a2] n h K := a
theorem en_103 {d n : Nat} {h : am_H} {K : am_K} {a0 : Int} (a : am_W 103 (n + 0) (am_M d) K 0 [some (Sum.inl a0)] [] n h) : am_M (d + 1) 103 [Sum.inl a0] n h K := a
theorem en_104 {d n : Nat} {h : am_H} {K : am_K} {a0 : Int} (a : am_W 104 (n + 0) (am_M d) K 0 [some (Sum.inl a0)] [] n h) : am_M (d + 1) 104 [Sum.inl a0] n h K := a
theorem en_105 {d n : Nat} {h : am_H} {K : am_K} {a0 : Option Nat} {a1 : Int} {a2 : Int} {a3 : Int} {a4 : Int} (a : am_W 105 (n + 0) (am_M d) K 0 [some (Sum.inr (Sum.inr a0)), some (Sum.inl a1), some (Sum.inl a2), some (Sum.inl a3), some (Sum.inl a4)] [] n h) : am_M (d + 1) 105 [Sum.inr (Sum.inr a0), Sum.inl a1, Sum.inl a2, Sum.inl a3, Sum.inl a4] n h K := a
theorem en_106 {d n : Nat} {h : am_H} {K : am_K} {a0 : Option Nat} {a1 : Int} (a : am_W 106 (n + 0) (am_M d) K 0 [some (Sum.inr (Sum.inr a0)), some (Sum.inl a1)] [] n h) : am_M (d + 1) 106 [Sum.inr (Sum.inr a0), Sum.inl a1] n h K := a
theorem en_107 {d n : Nat} {h : am_H} {K : am_K} {a0 : Option Nat} {a1 : Int} (a : am_W 107 (n + 0) (am_M d) K 0 [some (Sum.inr (Sum.inr a0)), some (Sum.inl a1)] [] n h) : am_M (d + 1) 107 [Sum.inr (Sum.inr a0), Sum.inl a1] n h K := a
theorem en_108 {d n : Nat} {h : am_H} {K : am_K} {a0 : Option Nat} {a1 : Int} {a2 : Int} {a3 : Int} (a : am_W 108 (n + 0) (am_M d) K 0 [some (Sum.inr (Sum.inr a0)), some (Sum.inl a1), some (Sum.inl a2), some (Sum.inl a3)] [] n h) : am_M (d + 1) 108 [Sum.inr (Sum.inr a0), Sum.inl a1, Sum.inl a2, Sum.inl a3] n h K := a
theorem en_109 {d n : Nat} {h : am_H} {K : am_K} {a0 : Option Nat} {a1 : Int} {a2 : Int} (a : am_W 109 (n + 0) (am_M d) K 0 [some (Sum.inr (Sum.inr a0)), some (Sum.inl a1), some (Sum.inl a2)] [] n h) : am_M (d + 1) 109 [Sum.inr (Sum.inr a0), Sum.inl a1, Sum.inl a2] n h K := a
theorem en_110 {d n : Nat} {h : am_H} {K : am_K} {a0 : Option Nat} {a1 : Int} {a2 : Int} {a3 : Int} {a4 : Int} (a : am_W 110 (n + 0) (am_M d) K 0 [some (Sum.inr (Sum.inr a0)), some (Sum.inl a1), some (Sum.inl a2), some (Sum.inl a3), some (Sum.inl a4), none, none, none] [] n h) : am_M (d + 1) 110 [Sum.inr (Sum.inr a0), Sum.inl a1, Sum.inl a2, Sum.inl a3, Sum.inl a4] n h K := a
theorem en_111 {d n : Nat} {h : am_H} {K : am_K} {a0 : Option Nat} {a1 : Int} (a : am_W 111 (n + 0) (am_M d) K 0 [some (Sum.inr (Sum.inr a0)), some (Sum.inl a1)] [] n h) : am_M (d + 1) 111 [Sum.inr (Sum.inr a0), Sum.inl a1] n h K := a
theorem en_112 {d n : Nat} {h : am_H} {K : am_K} {a0 : Option Nat} {a1 : Int} {a2 : Int} (a : am_W 112 (n + 0) (am_M d) K 0 [some (Sum.inr (Sum.inr a0)), some (Sum.inl a1), some (Sum.inl a2), none, none] [] n h) : am_M (d + 1) 112 [Sum.inr (Sum.inr a0), Sum.inl a1, Sum.inl a2] n h K := a
theorem en_113 {d n : Nat} {h : am_H} {K : am_K} {a0 : Option Nat} {a1 : Int} {a2 : Int} (a : am_W 113 (n + 0) (am_M d) K 0 [some (Sum.inr (Sum.inr a0)), some (Sum.inl a1), some (Sum.inl a2), none, none] [] n h) : am_M (d + 1) 113 [Sum.inr (Sum.inr a0), Sum.inl a1, Sum.inl a2] n h K := a
theorem en_114 {d n : Nat} {h : am_H} {K : am_K} {a0 : Option Nat} {a1 : Int} (a : am_W 114 (n + 0) (am_M d) K 0 [some (Sum.inr (Sum.inr a0)), some (Sum.inl a1)] [] n h) : am_M (d + 1) 114 [Sum.inr (Sum.inr a0), Sum.inl a1] n h K := a
theorem en_115 {d n : Nat} {h : am_H} {K : am_K} {a0 : Option Nat} {a1 : Int} {a2 : Int} (a : am_W 115 (n + 0) (am_M d) K 0 [some (Sum.inr (Sum.inr a0)), some (Sum.inl a1), some (Sum.inl a2)] [] n h) : am_M (d + 1) 115 [Sum.inr (Sum.inr a0), Sum.inl a1, Sum.inl a2] n h K := a
theorem en_116 {d n : Nat} {h : am_H} {K : am_K} {a0 : Option Nat} {a1 : Int} {a2 : Int} {a3 : Int} {a4 : Int} (a : am_W 116 (n + 0) (am_M d) K 0 [some (Sum.inr (Sum.inr a0)), some (Sum.inl a1), some (Sum.inl a2), some (Sum.inl a3), some (Sum.inl a4)] [] n h) : am_M (d + 1) 116 [Sum.inr (Sum.inr a0), Sum.inl a1, Sum.inl a2, Sum.inl a3, Sum.inl a4] n h K := a
theorem en_117 {d n : Nat} {h : am_H} {K : am_K} {a0 : Option Nat} {a1 : Int} (a : am_W 117 (n + 0) (am_M d) K 0 [some (Sum.inr (Sum.inr a0)), some (Sum.inl a1)] [] n h) : am_M (d + 1) 117 [Sum.inr (Sum.inr a0), Sum.inl a1] n h K := a
theorem en_118 {d n : Nat} {h : am_H} {K : am_K} {a0 : Option Nat} {a1 : Int} (a : am_W 118 (n + 0) (am_M d) K 0 [some (Sum.inr (Sum.inr a0)), some (Sum.inl a1)] [] n h) : am_M (d + 1) 118 [Sum.inr (Sum.inr a0), Sum.inl a1] n h K := a
theorem en_119 {d n : Nat} {h : am_H} {K : am_K} {a0 : Option Nat} {a1 : Int} {a2 : Int} {a3 : Int} (a : am_W 119 (n + 0) (am_M d) K 0 [some (Sum.inr (Sum.inr a0)), some (Sum.inl a1), some (Sum.inl a2), some (Sum.inl a3)] [] n h) : am_M (d + 1) 119 [Sum.inr (Sum.inr a0), Sum.inl a1, Sum.inl a2, Sum.inl a3] n h K := a
theorem en_120 {d n : Nat} {h : am_H} {K : am_K} {a0 : Option Nat} (a : am_W 120 (n + 0) (am_M d) K 0 [some (Sum.inr (Sum.inr a0)), none, none] [] n h) : am_M (d + 1) 120 [Sum.inr (Sum.inr a0)] n h K := a
theorem en_121 {d n : Nat} {h : am_H} {K : am_K} {a0 : Option Nat} {a1 : Int} {a2 : Int} (a : am_W 121 (n + 0) (am_M d) K 0 [some (Sum.inr (Sum.inr a0)), some (Sum.inl a1), some (Sum.inl a2)] [] n h) : am_M (d + 1) 121 [Sum.inr (Sum.inr a0), Sum.inl a1, Sum.inl a2] n h K := a
theorem en_122 {d n : Nat} {h : am_H} {K : am_K} {a0 : Option Nat} {a1 : Int} {a2 : Int} (a : am_W 122 (n + 0) (am_M d) K 0 [some (Sum.inr (Sum.inr a0)), some (Sum.inl a1), some (Sum.inl a2), none] [] n h) : am_M (d + 1) 122 [Sum.inr (Sum.inr a0), Sum.inl a1, Sum.inl a2] n h K := a
theorem en_123 {d n : Nat} {h : am_H} {K : am_K} {a0 : Int} {a1 : Int} (a : am_W 123 (n + 0) (am_M d) K 0 [some (Sum.inl a0), some (Sum.inl a1)] [] n h) : am_M (d + 1) 123 [Sum.inl a0, Sum.inl a1] n h K := a
theorem en_124 {d n : Nat} {h : am_H} {K : am_K} {a0 : Int} {a1 : Int} (a : am_W 124 (n + 0) (am_M d) K 0 [some (Sum.inl a0), some (Sum.inl a1)] [] n h) : am_M (d + 1) 124 [Sum.inl a0, Sum.inl a1] n h K := a
theorem en_125 {d n : Nat} {h : am_H} {K : am_K} {a0 : Option Nat} {a1 : Int} {a2 : Int} (a : am_W 125 (n + 0) (am_M d) K 0 [some (Sum.inr (Sum.inr a0)), some (Sum.inl a1), some (Sum.inl a2), none, none, none] [] n h) : am_M (d + 1) 125 [Sum.inr (Sum.inr a0), Sum.inl a1, Sum.inl a2] n h K := a
theorem en_126 {d n : Nat} {h : am_H} {K : am_K} {a0 : Option Nat} {a1 : Int} {a2 : Int} {a3 : Int} {a4 : Int} (a : am_W 126 (n + 0) (am_M d) K 0 [some (Sum.inr (Sum.inr a0)), some (Sum.inl a1), some (Sum.inl a2), some (Sum.inl a3), some (Sum.inl a4), none, none] [] n h) : am_M (d + 1) 126 [Sum.inr (Sum.inr a0), Sum.inl a1, Sum.inl a2, Sum.inl a3, Sum.inl a4] n h K := a
theorem en_127 {d n : Nat} {h : am_H} {K : am_K} {a0 : Option Nat} {a1 : Int} {a2 : Int} (a : am_W 127 (n + 0) (am_M d) K 0 [some (Sum.inr (Sum.inr a0)), some (Sum.inl a1), some (Sum.inl a2), none] [] n h) : am_M (d + 1) 127 [Sum.inr (Sum.inr a0), Sum.inl a1, Sum.inl a2] n h K := a
theorem en_128 {d n : Nat} {h : am_H} {K : am_K} {a0 : Option Nat} (a : am_W 128 (n + 0) (am_M d) K 0 [some (Sum.inr (Sum.inr a0))] [] n h) : am_M (d + 1) 128 [Sum.inr (Sum.inr a0)] n h K := a
theorem en_129 {d n : Nat} {h : am_H} {K : am_K} {a0 : Option Nat} {a1 : Int} {a2 : Int} (a : am_W 129 (n + 0) (am_M d) K 0 [some (Sum.inr (Sum.inr a0)), some (Sum.inl a1), some (Sum.inl a2), none] [] n h) : am_M (d + 1) 129 [Sum.inr (Sum.inr a0), Sum.inl a1, Sum.inl a2] n h K := a
theorem en_130 {d n : Nat} {h : am_H} {K : am_K} {a0 : Option Nat} {a1 : Int} {a2 : Int} (a : am_W 130 (n + 0) (am_M d) K 0 [some (Sum.inr (Sum.inr a0)), some (Sum.inl a1), some (Sum.inl a2)] [] n h) : am_M (d + 1) 130 [Sum.inr (Sum.inr a0), Sum.inl a1, Sum.inl a2] n h K := a
theorem en_131 {d n : Nat} {h : am_H} {K : am_K} {a0 : Option Nat} {a1 : Int} (a : am_W 131 (n + 0) (am_M d) K 0 [some (Sum.inr (Sum.inr a0)), some (Sum.inl a1), none, none] [] n h) : am_M (d + 1) 131 [Sum.inr (Sum.inr a0), Sum.inl a1] n h K := a
theorem en_132 {d n : Nat} {h : am_H} {K : am_K} {a0 : Option Nat} {a1 : Int} {a2 : Int} (a : am_W 132 (n + 0) (am_M d) K 0 [some (Sum.inr (Sum.inr a0)), some (Sum.inl a1), some (Sum.inl a2)] [] n h) : am_M (d + 1) 132 [Sum.inr (Sum.inr a0), Sum.inl a1, Sum.inl a2] n h K := a
theorem en_133 {d n : Nat} {h : am_H} {K : am_K} {a0 : Option Nat} {a1 : Int} {a2 : Int} (a : am_W 133 (n + 0) (am_M d) K 0 [some (Sum.inr (Sum.inr a0)), some (Sum.inl a1), some (Sum.inl a2), none] [] n h) : am_M (d + 1) 133 [Sum.inr (Sum.inr a0), Sum.inl a1, Sum.inl a2] n h K := a
theorem en_134 {d n : Nat} {h : am_H} {K : am_K} {a0 : Option Nat} {a1 : Int} {a2 : Int} (a : am_W 134 (n + 0) (am_M d) K 0 [some (Sum.inr (Sum.inr a0)), some (Sum.inl a1), some (Sum.inl a2), none, none, none, none] [] n h) : am_M (d + 1) 134 [Sum.inr (Sum.inr a0), Sum.inl a1, Sum.inl a2] n h K := a
theorem en_135 {d n : Nat} {h : am_H} {K : am_K} {a0 : Option Nat} {a1 : Int} {a2 : Int} (a : am_W 135 (n + 0) (am_M d) K 0 [some (Sum.inr (Sum.inr a0)), some (Sum.inl a1), some (Sum.inl a2)] [] n h) : am_M (d + 1) 135 [Sum.inr (Sum.inr a0), Sum.inl a1, Sum.inl a2] n h K := a
theorem en_136 {d n : Nat} {h : am_H} {K : am_K} {a0 : Option Nat} {a1 : Int} (a : am_W 136 (n + 0) (am_M d) K 0 [some (Sum.inr (Sum.inr a0)), some (Sum.inl a1), none, none] [] n h) : am_M (d + 1) 136 [Sum.inr (Sum.inr a0), Sum.inl a1] n h K := a
theorem en_137 {d n : Nat} {h : am_H} {K : am_K} {a0 : Option Nat} {a1 : Int} {a2 : Int} {a3 : Int} (a : am_W 137 (n + 0) (am_M d) K 0 [some (Sum.inr (Sum.inr a0)), some (Sum.inl a1), some (Sum.inl a2), some (Sum.inl a3)] [] n h) : am_M (d + 1) 137 [Sum.inr (Sum.inr a0), Sum.inl a1, Sum.inl a2, Sum.inl a3] n h K := a
theorem en_138 {d n : Nat} {h : am_H} {K : am_K} {a0 : Option Nat} {a1 : Int} {a2 : Int} (a : am_W 138 (n + 0) (am_M d) K 0 [some (Sum.inr (Sum.inr a0)), some (Sum.inl a1), some (Sum.inl a2)] [] n h) : am_M (d + 1) 138 [Sum.inr (Sum.inr a0), Sum.inl a1, Sum.inl a2] n h K := a
theorem en_139 {d n : Nat} {h : am_H} {K : am_K} {a0 : Int} {a1 : Int} (a : am_W 139 (n + 0) (am_M d) K 0 [some (Sum.inl a0), some (Sum.inl a1)] [] n h) : am_M (d + 1) 139 [Sum.inl a0, Sum.inl a1] n h K := a
theorem en_140 {d n : Nat} {h : am_H} {K : am_K} {a0 : Option Nat} {a1 : Int} {a2 : Int} (a : am_W 140 (n + 0) (am_M d) K 0 [some (Sum.inr (Sum.inr a0)), some (Sum.inl a1), some (Sum.inl a2), none] [] n h) : am_M (d + 1) 140 [Sum.inr (Sum.inr a0), Sum.inl a1, Sum.inl a2] n h K := a
theorem en_141 {d n : Nat} {h : am_H} {K : am_K} {a0 : Option Nat} {a1 : Int} {a2 : Int} {a3 : Int} {a4 : Int} {a5 : Int} (a : am_W 141 (n + 0) (am_M d) K 0 [some (Sum.inr (Sum.inr a0)), some (Sum.inl a1), some (Sum.inl a2), some (Sum.inl a3), some (Sum.inl a4), some (Sum.inl a5), none, none, none, none, none] [] n h) : am_M (d + 1) 141 [Sum.inr (Sum.inr a0), Sum.inl a1, Sum.inl a2, Sum.inl a3, Sum.inl a4, Sum.inl a5] n h K := a
theorem en_142 {d n : Nat} {h : am_H} {K : am_K} {a0 : Option Nat} {a1 : Int} (a : am_W 142 (n + 0) (am_M d) K 0 [some (Sum.inr (Sum.inr a0)), some (Sum.inl a1)] [] n h) : am_M (d + 1) 142 [Sum.inr (Sum.inr a0), Sum.inl a1] n h K := a
theorem en_143 {d n : Nat} {h : am_H} {K : am_K} {a0 : Option Nat} {a1 : Int} {a2 : Int} (a : am_W 143 (n + 0) (am_M d) K 0 [some (Sum.inr (Sum.inr a0)), some (Sum.inl a1), some (Sum.inl a2)] [] n h) : am_M (d + 1) 143 [Sum.inr (Sum.inr a0), Sum.inl a1, Sum.inl a2] n h K := a
theorem en_144 {d n : Nat} {h : am_H} {K : am_K} {a0 : Option Nat} {a1 : Int} (a : am_W 144 (n + 0) (am_M d) K 0 [some (Sum.inr (Sum.inr a0)), some (Sum.inl a1)] [] n h) : am_M (d + 1) 144 [Sum.inr (Sum.inr a0), Sum.inl a1] n h K := a
theorem en_145 {d n : Nat} {h : am_H} {K : am_K} {a0 : Option Nat} (a : am_W 145 (n + 0) (am_M d) K 0 [some (Sum.inr (Sum.inr a0)), none] [] n h) : am_M (d + 1) 145 [Sum.inr (Sum.inr a0)] n h K := a
theorem en_146 {d n : Nat} {h : am_H} {K : am_K} {a0 : Option Nat} {a1 : Int} (a : am_W 146 (n + 0) (am_M d) K 0 [some (Sum.inr (Sum.inr a0)), some (Sum.inl a1), none, none, none] [] n h) : am_M (d + 1) 146 [Sum.inr (Sum.inr a0), Sum.inl a1] n h K := a
theorem en_147 {d n : Nat} {h : am_H} {K : am_K} {a0 : Option Nat} {a1 : Int} (a : am_W 147 (n + 0) (am_M d) K 0 [some (Sum.inr (Sum.inr a0)), some (Sum.inl a1), none, none, none] [] n h) : am_M (d + 1) 147 [Sum.inr (Sum.inr a0), Sum.inl a1] n h K := a
theorem en_148 {d n : Nat} {h : am_H} {K : am_K} {a0 : Int} {a1 : Int} {a2 : Int} (a : am_W 148 (n + 0) (am_M d) K 0 [some (Sum.inr (Sum.inl a0)), none, some (Sum.inr (Sum.inl a1)), none, some (Sum.inl a2), none, none, none, none, none, none] [] n h) : am_M (d + 1) 148 [Sum.inr (Sum.inl a0), Sum.inr (Sum.inl a1), Sum.inl a2] n h K := a
theorem en_149 {d n : Nat} {h : am_H} {K : am_K} {a0 : Option Nat} {a1 : Int} (a : am_W 149 (n + 0) (am_M d) K 0 [some (Sum.inr (Sum.inr a0)), some (Sum.inl a1), none, none, none] [] n h) : am_M (d + 1) 149 [Sum.inr (Sum.inr a0), Sum.inl a1] n h K := a
theorem en_150 {d n : Nat} {h : am_H} {K : am_K} {a0 : Option Nat} {a1 : Int} {a2 : Int} {a3 : Int} (a : am_W 150 (n + 0) (am_M d) K 0 [some (Sum.inr (Sum.inr a0)), some (Sum.inl a1), some (Sum.inl a2), some (Sum.inl a3), none, none, none] [] n h) : am_M (d + 1) 150 [Sum.inr (Sum.inr a0), Sum.inl a1, Sum.inl a2, Sum.inl a3] n h K := a
theorem en_151 {d n : Nat} {h : am_H} {K : am_K} {a0 : Option Nat} {a1 : Int} {a2 : Int} {a3 : Int} (a : am_W 151 (n + 0) (am_M d) K 0 [some (Sum.inr (Sum.inr a0)), some (Sum.inl a1), some (Sum.inl a2), some (Sum.inl a3), none] [] n h) : am_M (d + 1) 151 [Sum.inr (Sum.inr a0), Sum.inl a1, Sum.inl a2, Sum.inl a3] n h K := a
theorem en_152 {d n : Nat} {h : am_H} {K : am_K} {a0 : Option Nat} {a1 : Int} (a : am_W 152 (n + 0) (am_M d) K 0 [some (Sum.inr (Sum.inr a0)), some (Sum.inl a1), none] [] n h) : am_M (d + 1) 152 [Sum.inr (Sum.inr a0), Sum.inl a1] n h K := a
theorem en_153 {d n : Nat} {h : am_H} {K : am_K} {a0 : Option Nat} {a1 : Int} {a2 : Int} {a3 : Int} (a : am_W 153 (n + 0) (am_M d) K 0 [some (Sum.inr (Sum.inr a0)), some (Sum.inl a1), some (Sum.inl a2), some (Sum.inl a3)] [] n h) : am_M (d + 1) 153 [Sum.inr (Sum.inr a0), Sum.inl a1, Sum.inl a2, Sum.inl a3] n h K := a
theorem en_154 {d n : Nat} {h : am_H} {K : am_K} {a0 : Option Nat} {a1 : Int} {a2 : Int} {a3 : Int} (a : am_W 154 (n + 0) (am_M d) K 0 [some (Sum.inr (Sum.inr a0)), some (Sum.inl a1), some (Sum.inl a2), some (Sum.inl a3)] [] n h) : am_M (d + 1) 154 [Sum.inr (Sum.inr a0), Sum.inl a1, Sum.inl a2, Sum.inl a3] n h K := a
theorem en_155 {d n : Nat} {h : am_H} {K : am_K} {a0 : Option Nat} {a1 : Int} {a2 : Int} {a3 : Int} {a4 : Int} {a5 : Int} (a : am_W 155 (n + 0) (am_M d) K 0 [some (Sum.inr (Sum.inr a0)), some (Sum.inl a1), some (Sum.inl a2), some (Sum.inl a3), some (Sum.inl a4), some (Sum.inl a5), none, none, none, none] [] n h) : am_M (d + 1) 155 [Sum.inr (Sum.inr a0), Sum.inl a1, Sum.inl a2, Sum.inl a3, Sum.inl a4, Sum.inl a5] n h K := a
theorem en_156 {d n : Nat} {h : am_H} {K : am_K} {a0 : Option Nat} {a1 : Int} (a : am_W 156 (n + 0) (am_M d) K 0 [some (Sum.inr (Sum.inr a0)), some (Sum.inl a1)] [] n h) : am_M (d + 1) 156 [Sum.inr (Sum.inr a0), Sum.inl a1] n h K := a
theorem en_157 {d n : Nat} {h : am_H} {K : am_K} {a0 : Option Nat} {a1 : Int} (a : am_W 157 (n + 0) (am_M d) K 0 [some (Sum.inr (Sum.inr a0)), some (Sum.inl a1), none] [] n h) : am_M (d + 1) 157 [Sum.inr (Sum.inr a0), Sum.inl a1] n h K := a
theorem en_158 {d n : Nat} {h : am_H} {K : am_K} {a0 : Option Nat} {a1 : Int} (a : am_W 158 (n + 0) (am_M d) K 0 [some (Sum.inr (Sum.inr a0)), some (Sum.inl a1)] [] n h) : am_M (d + 1) 158 [Sum.inr (Sum.inr a0), Sum.inl a1] n h K := a
theorem en_159 {d n : Nat} {h : am_H} {K : am_K} {a0 : Option Nat} {a1 : Int} {a2 : Int} (a : am_W 159 (n + 0) (am_M d) K 0 [some (Sum.inr (Sum.inr a0)), some (Sum.inl a1), some (Sum.inl a2)] [] n h) : am_M (d + 1) 159 [Sum.inr (Sum.inr a0), Sum.inl a1, Sum.inl a2] n h K := a
theorem en_160 {d n : Nat} {h : am_H} {K : am_K} {a0 : Option Nat} (a : am_W 160 (n + 0) (am_M d) K 0 [some (Sum.inr (Sum.inr a0))] [] n h) : am_M (d + 1) 160 [Sum.inr (Sum.inr a0)] n h K := a
theorem en_161 {d n : Nat} {h : am_H} {K : am_K} {a0 : Option Nat} (a : am_W 161 (n + 0) (am_M d) K 0 [some (Sum.inr (Sum.inr a0))] [] n h) : am_M (d + 1) 161 [Sum.inr (Sum.inr a0)] n h K := a
theorem en_162 {d n : Nat} {h : am_H} {K : am_K} {a0 : Option Nat} {a1 : Int} (a : am_W 162 (n + 0) (am_M d) K 0 [some (Sum.inr (Sum.inr a0)), some (Sum.inl a1), none, none] [] n h) : am_M (d + 1) 162 [Sum.inr (Sum.inr a0), Sum.inl a1] n h K := a
theorem en_163 {d n : Nat} {h : am_H} {K : am_K} {a0 : Int} (a : am_W 163 (n + 0) (am_M d) K 0 [some (Sum.inl a0)] [] n h) : am_M (d + 1) 163 [Sum.inl a0] n h K := a
theorem en_164 {d n : Nat} {h : am_H} {K : am_K} {a0 : Int} {a1 : Int} (a : am_W 164 (n + 0) (am_M d) K 0 [some (Sum.inl a0), some (Sum.inl a1)] [] n h) : am_M (d + 1) 164 [Sum.inl a0, Sum.inl a1] n h K := a
