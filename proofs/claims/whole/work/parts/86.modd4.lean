/-! ODDS 5: how many throws agree with a stand -/
theorem sN_fr {f : Nat → Nat} : ∀ n, sN (n + 1) f = f 0 + sN n (fun j => f (j + 1))
  | 0 => by show 0 + f 0 = f 0 + 0; omega
  | n + 1 => by
    show sN (n + 1) f + f (n + 1) = f 0 + (sN n (fun j => f (j + 1)) + f (n + 1))
    rw [sN_fr n]
    omega
theorem sN_mul {f : Nat → Nat} {c : Nat} : ∀ n, sN n (fun j => c * f j) = c * sN n f
  | 0 => rfl
  | n + 1 => by
    show sN n (fun j => c * f j) + c * f n = c * (sN n f + f n)
    rw [sN_mul n, Nat.mul_add]
theorem sN_z : ∀ n, sN n (fun _ => 0) = 0
  | 0 => rfl
  | n + 1 => by show sN n (fun _ => 0) + 0 = 0; rw [sN_z n]
theorem sN_sp {f : Nat → Nat} {a : Nat} : ∀ b, sN (a + b) f = sN a f + sN b (fun j => f (a + j))
  | 0 => rfl
  | b + 1 => by
    show sN (a + b) f + f (a + b) = sN a f + (sN b (fun j => f (a + j)) + f (a + b))
    rw [sN_sp b]
    omega
theorem sN_pr {w : Nat} {f g : Nat → Nat} (hw : 0 < w) : ∀ B, sN (w * B) (fun i => f (i % w) * g (i / w)) = sN w f * sN B g
  | 0 => by rw [Nat.mul_zero]; show 0 = sN w f * 0; omega
  | B + 1 => by
    rw [Nat.mul_succ, sN_sp, sN_pr hw B]
    have e : sN w (fun j => f ((w * B + j) % w) * g ((w * B + j) / w)) = sN w (fun j => g B * f j) := by
      refine sN_cg w (fun j hj => ?_)
      rw [Nat.mul_add_mod, Nat.mod_eq_of_lt hj, Nat.mul_add_div hw, Nat.div_eq_of_lt hj, Nat.add_zero, Nat.mul_comm]
    rw [e, sN_mul]
    show sN w f * sN B g + g B * sN w f = sN w f * (sN B g + g B)
    rw [Nat.mul_add, Nat.mul_comm (g B)]
/-- a position agrees -/
def ap (c d : Int) : Nat := if c = -1 ∨ c = d then 1 else 0
def agr : List Int → List Int → Nat
  | [], [] => 1
  | c :: C, d :: D => ap c d * agr C D
  | _, _ => 0
def cnt : List (Int × Int) → List Int → Nat
  | [], [] => 1
  | r :: R, c :: C => sN (wd r) (fun j => ap c (r.1 + (j : Int))) * cnt R C
  | _, _ => 0
theorem cnt_ok : ∀ {R : List (Int × Int)} {C : List Int}, VR R → C.length = R.length → sN (bx R) (fun i => agr C (enm R i)) = cnt R C
  | [], [], _, _ => rfl
  | r :: R, c :: C, a, hl => by
    have hw : 0 < wd r := by rcases wd_cs a with ⟨e, _⟩ | ⟨e, _⟩ | ⟨e, _⟩ <;> omega
    have ih := cnt_ok (R := R) (C := C) a.c (by simpa using hl)
    show sN (wd r * bx R) (fun i => ap c (r.1 + ((i % wd r : Nat) : Int)) * agr C (enm R (i / wd r))) = sN (wd r) (fun j => ap c (r.1 + (j : Int))) * cnt R C
    rw [sN_pr (f := fun j => ap c (r.1 + (j : Int))) (g := fun i => agr C (enm R i)) hw, ih]
  | [], _ :: _, _, hl => absurd hl (by simp)
  | _ :: _, [], _, hl => absurd hl (by simp)
def cx (s : Int) (x : Nat) : Int := if st_bound s x = 3 then -1 else st_bound s x
def ct (s : Int) (t : Nat) : Int := if cpk s t = 0 then -1 else cpk s t
def ctL (s : Int) : Nat → Nat → List Int
  | _, 0 => []
  | o, T + 1 => ct s o :: ctL s (o + 1) T
def csL (s : Int) (T : Nat) : List Int := cx s 0 :: cx s 1 :: cx s 2 :: ctL s 0 T
theorem ctL_len {s : Int} : ∀ {T o : Nat}, (ctL s o T).length = T
  | 0, _ => rfl
  | T + 1, o => by show (ctL s (o + 1) T).length + 1 = T + 1; rw [ctL_len]
theorem ap_1 {c d : Int} : ap c d = 1 ↔ (c = -1 ∨ c = d) := by
  unfold ap
  split
  · next h => exact ⟨fun _ => h, fun _ => rfl⟩
  · next h => exact ⟨fun z => by omega, fun z => absurd z h⟩
theorem ap_le {c d : Int} : ap c d = 0 ∨ ap c d = 1 := by unfold ap; split <;> omega
theorem agr_T {s : Int} : ∀ {T o : Nat} {D : List Int}, D.length = T → (agr (ctL s o T) D = 0 ∨ agr (ctL s o T) D = 1) ∧ (agr (ctL s o T) D = 1 ↔ ∀ t, t < T → cpk s (o + t) ≠ 0 → D.getD t 0 = cpk s (o + t))
  | 0, o, [], _ => ⟨Or.inr rfl, ⟨fun _ t ht => by omega, fun _ => rfl⟩⟩
  | T + 1, o, d :: D, hl => by
    obtain ⟨i1, i2⟩ := agr_T (s := s) (T := T) (o := o + 1) (D := D) (by simpa using hl)
    have h1 := ap_le (c := ct s o) (d := d)
    have h2 := ap_1 (c := ct s o) (d := d)
    have e : agr (ctL s o (T + 1)) (d :: D) = ap (ct s o) d * agr (ctL s (o + 1) T) D := rfl
    rw [e]
    refine ⟨?_, ?_⟩
    · rcases h1 with a | a <;> rcases i1 with b | b <;> rw [a, b] <;> decide
    · constructor
      · intro z t ht hn
        have z1 : ap (ct s o) d = 1 ∧ agr (ctL s (o + 1) T) D = 1 := by
          rcases h1 with a | a <;> rcases i1 with b | b <;> rw [a, b] at z <;> first | (exact ⟨a, b⟩) | (exact absurd z (by decide))
        cases t with
        | zero =>
          have := h2.1 z1.1
          unfold ct at this
          rw [show o + 0 = o from rfl] at hn ⊢
          rw [if_neg hn] at this
          have hc : cpk s o ≠ -1 := by unfold cpk; split <;> first | decide | (split <;> decide)
          rcases this with q | q
          · exact absurd q hc
          · exact q.symm
        | succ t =>
          have := i2.1 z1.2 t (by omega)
          rw [show o + 1 + t = o + (t + 1) by omega] at this
          exact this hn
      · intro z
        have a : ap (ct s o) d = 1 := h2.2 (by
          unfold ct
          by_cases q : cpk s o = 0
          · rw [if_pos q]; exact Or.inl rfl
          · rw [if_neg q]
            have := z 0 (by omega) q
            exact Or.inr this.symm)
        have b : agr (ctL s (o + 1) T) D = 1 := i2.2 (fun t ht hn => by
          rw [show o + 1 + t = o + (t + 1) by omega] at hn ⊢
          exact z (t + 1) (by omega) hn)
        rw [a, b]
  | 0, _, _ :: _, hl => absurd hl (by simp)
  | _ + 1, _, [], hl => absurd hl (by simp)
theorem cx_1 {s : Int} {x : Nat} {d : Int} : ap (cx s x) d = 1 ↔ (st_bound s x ≠ 3 → d = st_bound s x) := by
  have h3 := am_and3 (am_shr s (wr (2 * (x : Int))))
  have h3 : 0 ≤ st_bound s x ∧ st_bound s x ≤ 3 := h3
  rw [ap_1]
  unfold cx
  by_cases q : st_bound s x = 3
  · rw [if_pos q]
    exact ⟨fun _ z => absurd q z, fun _ => Or.inl rfl⟩
  · rw [if_neg q]
    exact ⟨fun z _ => by omega, fun z => Or.inr (z q).symm⟩
theorem agr_ag {s : Int} {T : Nat} {L : List Int} (hl : L.length = 3 + T) : agr (csL s T) L = ag T s L := by
  match L, hl with
  | [], hl => exact absurd hl (by show ¬ 0 = 3 + T; omega)
  | [_], hl => exact absurd hl (by show ¬ 1 = 3 + T; omega)
  | [_, _], hl => exact absurd hl (by show ¬ 2 = 3 + T; omega)
  | d0 :: d1 :: d2 :: D, hl =>
    have lD : D.length = T := by simp at hl; omega
    obtain ⟨i1, i2⟩ := agr_T (s := s) (o := 0) lD
    have e : agr (csL s T) (d0 :: d1 :: d2 :: D) = ap (cx s 0) d0 * (ap (cx s 1) d1 * (ap (cx s 2) d2 * agr (ctL s 0 T) D)) := rfl
    rw [e]
    have a0 := ap_le (c := cx s 0) (d := d0)
    have a1 := ap_le (c := cx s 1) (d := d1)
    have a2 := ap_le (c := cx s 2) (d := d2)
    have b0 := cx_1 (s := s) (x := 0) (d := d0)
    have b1 := cx_1 (s := s) (x := 1) (d := d1)
    have b2 := cx_1 (s := s) (x := 2) (d := d2)
    have hD : ∀ t, (d0 :: d1 :: d2 :: D).getD (3 + t) 0 = D.getD t 0 := fun t => by rw [show 3 + t = t + 1 + 1 + 1 by omega]; rfl
    have key : (ap (cx s 0) d0 = 1 ∧ ap (cx s 1) d1 = 1 ∧ ap (cx s 2) d2 = 1 ∧ agr (ctL s 0 T) D = 1) ↔ AGP T s (d0 :: d1 :: d2 :: D) := by
      constructor
      · rintro ⟨c0, c1, c2, c3⟩
        refine ⟨fun x hx hn => ?_, fun t ht hn => ?_⟩
        · rcases (by omega : x = 0 ∨ x = 1 ∨ x = 2) with q | q | q <;> subst q
          · exact b0.1 c0 hn
          · exact b1.1 c1 hn
          · exact b2.1 c2 hn
        · rw [hD]
          have := i2.1 c3 t ht
          rw [Nat.zero_add] at this
          exact this hn
      · rintro ⟨c1, c2⟩
        refine ⟨b0.2 (fun hn => c1 0 (by omega) hn), b1.2 (fun hn => c1 1 (by omega) hn), b2.2 (fun hn => c1 2 (by omega) hn), i2.2 (fun t ht hn => ?_)⟩
        rw [Nat.zero_add] at hn ⊢
        have := c2 t ht hn
        rw [hD] at this
        exact this
    by_cases q : AGP T s (d0 :: d1 :: d2 :: D)
    · obtain ⟨c0, c1, c2, c3⟩ := key.2 q
      rw [ag_1 q, c0, c1, c2, c3]
    · rw [ag_0 q]
      have : ¬ (ap (cx s 0) d0 = 1 ∧ ap (cx s 1) d1 = 1 ∧ ap (cx s 2) d2 = 1 ∧ agr (ctL s 0 T) D = 1) := fun z => q (key.1 z)
      rcases a0 with c0 | c0 <;> rcases a1 with c1 | c1 <;> rcases a2 with c2 | c2 <;> rcases i1 with c3 | c3 <;> rw [c0, c1, c2, c3] <;> first | rfl | (exact absurd ⟨c0, c1, c2, c3⟩ this)
theorem cnt_T {s : Int} : ∀ {T o : Nat}, cnt (List.replicate T (1, 2)) (ctL s o T) * 2 ^ sN T (fun j => if cpk s (o + j) = 0 then 0 else 1) = 2 ^ T
  | 0, _ => rfl
  | T + 1, o => by
    have ih := cnt_T (s := s) (T := T) (o := o + 1)
    have e : cnt (List.replicate (T + 1) ((1 : Int), (2 : Int))) (ctL s o (T + 1)) = sN 2 (fun j => ap (ct s o) (1 + (j : Int))) * cnt (List.replicate T (1, 2)) (ctL s (o + 1) T) := rfl
    rw [e, sN_fr T]
    have e2 : (fun j => if cpk s (o + (j + 1)) = 0 then 0 else 1) = (fun j => if cpk s (o + 1 + j) = 0 then 0 else (1 : Nat)) := by
      funext j
      rw [show o + (j + 1) = o + 1 + j by omega]
    rw [e2]
    have hc : cpk s o = 0 ∨ cpk s o = 1 ∨ cpk s o = 2 := by
      unfold cpk
      split
      · exact Or.inl rfl
      · split
        · exact Or.inr (Or.inl rfl)
        · exact Or.inr (Or.inr rfl)
    generalize cnt (List.replicate T (1, 2)) (ctL s (o + 1) T) = c at *
    generalize sN T (fun j => if cpk s (o + 1 + j) = 0 then 0 else (1 : Nat)) = p at *
    rw [show o + 0 = o from rfl]
    have e3 : sN 2 (fun j => ap (ct s o) (1 + (j : Int))) * 2 ^ (if cpk s o = 0 then 0 else 1) = 2 := by
      unfold ct
      rcases hc with q | q | q <;> rw [q] <;> decide
    rw [Nat.pow_add, Nat.pow_succ 2 T, ← ih]
    have e4 : ∀ A B C E : Nat, A * B = E → A * c * (B * C) = c * C * E := by
      intro A B C E hE
      rw [← hE]
      simp only [Nat.mul_comm, Nat.mul_left_comm, Nat.mul_assoc]
    exact e4 _ _ _ _ e3
theorem bx_T : ∀ T, bx (List.replicate T (1, 2)) = 2 ^ T
  | 0 => rfl
  | T + 1 => by
    show wd (1, 2) * bx (List.replicate T (1, 2)) = 2 ^ (T + 1)
    rw [bx_T T, Nat.pow_succ, show wd (1, 2) = 2 from rfl, Nat.mul_comm]
/-- all throws that agree with a stand, times what was bound, picked -/
theorem ext_ok {gs : List Int} {s : Int} {T : Nat} (hg : GS gs) (hT : T ≤ 6) (si : SI gs T s) : sN (bx (Rg gs T)) (fun i => ag T s (enm (Rg gs T) i)) * (3 ^ (sm 3 (bsc gs s)).toNat * 2 ^ (bits6 (st_picked s)).toNat) = bx (Rg gs T) := by
  have lR : (Rg gs T).length = 3 + T := by
    show (List.replicate T ((1 : Int), (2 : Int))).length + 1 + 1 + 1 = _
    rw [List.length_replicate]; omega
  have e1 : sN (bx (Rg gs T)) (fun i => ag T s (enm (Rg gs T) i)) = cnt (Rg gs T) (csL s T) := by
    rw [← cnt_ok (Rg_VR hg T) (by rw [lR]; show (ctL s 0 T).length + 1 + 1 + 1 = _; rw [ctL_len]; omega)]
    refine sN_cg _ (fun i hi => ?_)
    rw [agr_ag (by rw [enm_len, lR])]
  have e2 : cnt (Rg gs T) (csL s T) = sN (wd (ug gs 0)) (fun j => ap (cx s 0) ((ug gs 0).1 + (j : Int))) * (sN (wd (ug gs 1)) (fun j => ap (cx s 1) ((ug gs 1).1 + (j : Int))) * (sN (wd (ug gs 2)) (fun j => ap (cx s 2) ((ug gs 2).1 + (j : Int))) * cnt (List.replicate T (1, 2)) (ctL s 0 T))) := rfl
  have e3 : bx (Rg gs T) = wd (ug gs 0) * (wd (ug gs 1) * (wd (ug gs 2) * 2 ^ T)) := by
    show wd (ug gs 0) * (wd (ug gs 1) * (wd (ug gs 2) * bx (List.replicate T (1, 2)))) = _
    rw [bx_T]
  have pos : ∀ x : Nat, x < 3 → sN (wd (ug gs x)) (fun j => ap (cx s x) ((ug gs x).1 + (j : Int))) * 3 ^ (bsc gs s x).toNat = wd (ug gs x) := by
    intro x hx
    have h3 : 0 ≤ st_bound s x ∧ st_bound s x ≤ 3 := am_and3 _
    have hgx := hg x hx
    unfold ug cx bsc
    by_cases q : gs.getD x 0 = 3
    · rw [if_pos q]
      rcases (by omega : st_bound s x = 0 ∨ st_bound s x = 1 ∨ st_bound s x = 2 ∨ st_bound s x = 3) with z | z | z | z <;> rw [z, q] <;> decide
    · have := si.2.1 x hx q
      rw [if_neg q, this, if_neg q]
      rcases (by omega : gs.getD x 0 = 0 ∨ gs.getD x 0 = 1 ∨ gs.getD x 0 = 2) with z | z | z <;> rw [z] <;> decide
  have p0 := pos 0 (by omega)
  have p1 := pos 1 (by omega)
  have p2 := pos 2 (by omega)
  have pT := cnt_T (s := s) (T := T) (o := 0)
  have bn : ∀ x, 0 ≤ bsc gs s x := fun x => (bsc_bd gs s x).1
  have eu : (sm 3 (bsc gs s)).toNat = (bsc gs s 0).toNat + (bsc gs s 1).toNat + (bsc gs s 2).toNat := by
    have := bn 0
    have := bn 1
    have := bn 2
    show (0 + bsc gs s 0 + bsc gs s 1 + bsc gs s 2).toNat = _
    omega
  have ep : (bits6 (st_picked s)).toNat = sN T (fun j => if cpk s (0 + j) = 0 then 0 else 1) := by
    have hb : ∀ t, t < 6 → b2 (bt s (6 + t)) = ((if t < T then (fun j => if cpk s (0 + j) = 0 then 0 else 1 : Nat → Nat) t else 0 : Nat) : Int) := by
      intro t ht
      dsimp only
      rw [Nat.zero_add]
      by_cases q : t < T
      · rw [if_pos q]
        by_cases z : cpk s t = 0
        · rw [if_pos z, (cpk_0 ht).1 z]; rfl
        · rw [if_neg z]
          have : bt s (6 + t) ≠ false := fun y => z ((cpk_0 ht).2 y)
          cases y : bt s (6 + t) with
          | true => rfl
          | false => exact absurd y this
      · rw [if_neg q, si.2.2 t (by omega) ht]; rfl
    have h0 := hb 0 (by omega)
    have h1 := hb 1 (by omega)
    have h2 := hb 2 (by omega)
    have h3 := hb 3 (by omega)
    have h4 := hb 4 (by omega)
    have h5 := hb 5 (by omega)
    clear hb pT
    rw [bits6_bt]
    generalize (fun j => if cpk s (0 + j) = 0 then 0 else 1 : Nat → Nat) = f at *
    rw [show 6 + 0 = 6 from rfl] at h0
    rw [show 6 + 1 = 7 from rfl] at h1
    rw [show 6 + 2 = 8 from rfl] at h2
    rw [show 6 + 3 = 9 from rfl] at h3
    rw [show 6 + 4 = 10 from rfl] at h4
    rw [show 6 + 5 = 11 from rfl] at h5
    rw [h0, h1, h2, h3, h4, h5]
    clear h0 h1 h2 h3 h4 h5 e1 e2 e3 pos p0 p1 p2 bn eu si lR
    rcases (by omega : T = 0 ∨ T = 1 ∨ T = 2 ∨ T = 3 ∨ T = 4 ∨ T = 5 ∨ T = 6) with q | q | q | q | q | q | q <;> subst q <;> simp [sN] <;> omega
  have alg : ∀ A0 A1 A2 C E0 E1 E2 F W0 W1 W2 WT : Nat, A0 * E0 = W0 → A1 * E1 = W1 → A2 * E2 = W2 → C * F = WT → A0 * (A1 * (A2 * C)) * (E0 * E1 * E2 * F) = W0 * (W1 * (W2 * WT)) := by
    intro A0 A1 A2 C E0 E1 E2 F W0 W1 W2 WT r0 r1 r2 r3
    rw [← r0, ← r1, ← r2, ← r3]
    simp only [Nat.mul_comm, Nat.mul_left_comm, Nat.mul_assoc]
  rw [e1, e2, e3, ep, eu, Nat.pow_add, Nat.pow_add]
  exact alg _ _ _ _ _ _ _ _ _ _ _ _ p0 p1 p2 pT
