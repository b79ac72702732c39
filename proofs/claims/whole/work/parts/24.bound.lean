/-! ROWS 4: a row has at most 418 stands -/
theorem evt_need {fns : List FnT} {tms : List TmT} {bd : Int → Int} {pk : Nat → Int} (hwf : WF fns tms) (hl : tms.length ≤ 6) (hb : ∀ x, 0 ≤ x ∧ x ≤ 2 → 0 ≤ bd x ∧ bd x ≤ 3) : ∀ t, t < tms.length →
    (4 ≤ (evt fns tms bd pk t).1 → (evt fns tms bd pk t).1 < 8 → ∃ x : Nat, x < 3 ∧ (evt fns tms bd pk t).1 = 4 + (x : Int) ∧ bd x = 3 ∧ ∃ q, q < tms.length ∧ (tms.getD q tm0).1 = 1 ∧ (tms.getD q tm0).2.1 = x) ∧
    (8 ≤ (evt fns tms bd pk t).1 → ∃ q : Nat, q < tms.length ∧ (evt fns tms bd pk t).1 = 8 + (q : Int) ∧ (tms.getD q tm0).1 = 2 ∧ pk q = 0) := by
  intro t
  induction t using Nat.strongRecOn with
  | _ t ih =>
    intro ht
    have hx := hwf.2 t _ (gd_get tm0 ht)
    have hev : evt fns tms bd pk t = ev1 fns bd pk (evp fns tms bd pk t) (tms.getD t tm0) := rfl
    unfold ev1 at hev
    rcases hx with ⟨e, h1, h2⟩ | ⟨e, h1, h2⟩ | ⟨e, ⟨h1, h2⟩, ⟨h3, h4⟩, h5, h6⟩
    · rw [if_pos e] at hev
      rw [hev]
      dsimp only
      exact ⟨fun _ _ => by omega, fun _ => by omega⟩
    · rw [if_neg (by omega), if_pos e] at hev
      have := hb _ ⟨h1, h2⟩
      rw [hev]
      dsimp only
      by_cases q : bd (tms.getD t tm0).2.1 = 3
      · rw [if_pos q]
        refine ⟨fun _ _ => ⟨(tms.getD t tm0).2.1.toNat, by omega, by omega, ?_, t, ht, e, by omega⟩, fun _ => by omega⟩
        rw [Int.toNat_of_nonneg h1]
        exact q
      · rw [if_neg q]
        exact ⟨fun _ _ => by omega, fun _ => by omega⟩
    · rw [if_neg (by omega), if_neg (by omega)] at hev
      dsimp only at hev
      have hF := hwf.1 _ _ (gd_get fn0 (i := (tms.getD t tm0).2.1.toNat) (by omega))
      generalize fns.getD (tms.getD t tm0).2.1.toNat fn0 = F at *
      have iA : (if F.2.2.1 = 0 then (tms.getD t tm0).2.2.1 else (tms.getD t tm0).2.2.2).toNat < t := by split <;> omega
      have iB : (if F.2.2.1 = 0 then (tms.getD t tm0).2.2.2 else (tms.getD t tm0).2.2.1).toNat < t := by split <;> omega
      rw [evp_get t _ iA, evp_get t _ iB, evp_len] at hev
      have hA := ih _ iA (by omega)
      have hB := ih _ iB (by omega)
      have rA := evt_rng (pk := pk) hwf hl hb _ (Nat.lt_trans iA ht)
      have rB := evt_rng (pk := pk) hwf hl hb _ (Nat.lt_trans iB ht)
      generalize evt fns tms bd pk (if F.2.2.1 = 0 then (tms.getD t tm0).2.2.1 else (tms.getD t tm0).2.2.2).toNat = A at *
      generalize evt fns tms bd pk (if F.2.2.1 = 0 then (tms.getD t tm0).2.2.2 else (tms.getD t tm0).2.2.1).toNat = B at *
      have triv : ∀ x : Int, x < 4 → (4 ≤ x → x < 8 → ∃ y : Nat, y < 3 ∧ x = 4 + (y : Int) ∧ bd y = 3 ∧ ∃ q, q < tms.length ∧ (tms.getD q tm0).1 = 1 ∧ (tms.getD q tm0).2.1 = y) ∧ (8 ≤ x → ∃ q : Nat, q < tms.length ∧ x = 8 + (q : Int) ∧ (tms.getD q tm0).1 = 2 ∧ pk q = 0) := fun x hx => ⟨fun _ _ => by omega, fun _ => by omega⟩
      by_cases q : 3 ≤ A.1
      · rw [if_pos q] at hev
        rw [hev]
        exact hA
      · rw [if_neg q] at hev
        have htw := hF.2.2.2.2.2 A.1.toNat (by omega)
        by_cases q1 : F.2.2.2.1.getD A.1.toNat 0 < 3
        · rw [if_pos q1] at hev
          rw [hev]
          exact triv _ (by dsimp only; omega)
        · rw [if_neg q1] at hev
          by_cases q2 : F.2.2.2.1.getD A.1.toNat 0 = 4
          · rw [if_pos q2] at hev
            rw [hev]
            exact triv _ (by dsimp only; omega)
          · rw [if_neg q2] at hev
            by_cases q3 : 5 ≤ F.2.2.2.1.getD A.1.toNat 0 ∧ F.2.2.2.1.getD A.1.toNat 0 < 14
            · rw [if_pos q3] at hev
              rw [hev]
              dsimp only
              by_cases q4 : pk t = 0
              · rw [if_pos q4]
                exact ⟨fun _ _ => by omega, fun _ => ⟨t, ht, rfl, e, q4⟩⟩
              · rw [if_neg q4]
                refine triv _ ?_
                split <;> omega
            · rw [if_neg q3] at hev
              rw [hev]
              dsimp only
              by_cases q5 : F.2.2.2.1.getD A.1.toNat 0 = 3 ∨ 3 ≤ B.1
              · rw [if_pos q5]
                exact hB
              · rw [if_neg q5]
                refine triv _ ?_
                have := htw.2 (by omega) B.1.toNat (by omega)
                rw [show (3 * A.1 + B.1).toNat = 3 * A.1.toNat + B.1.toNat by omega]
                omega
def VS (s : Int) : Prop := ∀ t, t < 6 → bt s (6 + t) = false → bt s (12 + t) = false
def w0 : Nat → Nat
  | 0 => 1
  | p + 1 => 1 + 2 * w0 p
def wT (p : Nat) : Nat → Nat
  | 0 => w0 p
  | u + 1 => 1 + 3 * wT p u
theorem wT_p (p : Nat) : ∀ u, 1 + 2 * wT p u ≤ wT (p + 1) u
  | 0 => Nat.le_refl _
  | u + 1 => by
    have := wT_p p u
    show 1 + 2 * (1 + 3 * wT p u) ≤ 1 + 3 * wT (p + 1) u
    omega
theorem wT_418 : ∀ (p : Fin 7) (u : Fin 4), u.val + p.val ≤ 6 → wT p.val u.val ≤ 418 := by decide
def sN : Nat → (Nat → Nat) → Nat
  | 0, _ => 0
  | i + 1, f => sN i f + f i
theorem sN_cg {f g : Nat → Nat} : ∀ i, (∀ j, j < i → f j = g j) → sN i f = sN i g
  | 0, _ => rfl
  | i + 1, h => by
    show sN i f + f i = sN i g + g i
    rw [sN_cg i (fun j hj => h j (by omega)), h i (by omega)]
theorem sN_up {f g : Nat → Nat} {q : Nat} (hg : f q = g q + 1) : ∀ i, q < i → (∀ j, j < i → j ≠ q → f j = g j) → sN i f = sN i g + 1
  | 0, h, _ => by omega
  | i + 1, h, hh => by
    show sN i f + f i = sN i g + g i + 1
    by_cases e : q = i
    · subst e
      rw [sN_cg q (fun j hj => hh j (by omega) (by omega)), hg]
      omega
    · rw [sN_up hg i (by omega) (fun j hj => hh j (by omega)), hh i (by omega) (by omega)]
      omega
theorem sN_le {f g : Nat → Nat} : ∀ i, (∀ j, j < i → f j ≤ g j) → sN i f ≤ sN i g
  | 0, _ => Nat.le_refl _
  | i + 1, h => by
    show sN i f + f i ≤ sN i g + g i
    have := sN_le i (fun j hj => h j (by omega))
    have := h i (by omega)
    omega
theorem sN_add {f g : Nat → Nat} : ∀ i, sN i (fun j => f j + g j) = sN i f + sN i g
  | 0 => rfl
  | i + 1 => by
    show sN i (fun j => f j + g j) + (f i + g i) = sN i f + f i + (sN i g + g i)
    rw [sN_add i]
    omega
/-- an unknown one that is among the terms and not bound -/
def fu (tms : List TmT) (s : Int) (x : Nat) : Nat := if (∃ q, q < tms.length ∧ (tms.getD q tm0).1 = 1 ∧ (tms.getD q tm0).2.1 = x) ∧ st_bound s x = 3 then 1 else 0
def fp (tms : List TmT) (s : Int) (q : Nat) : Nat := if (tms.getD q tm0).1 = 2 ∧ cpk s q = 0 then 1 else 0
def wS (tms : List TmT) (s : Int) : Nat := wT (sN tms.length (fp tms s)) (sN 3 (fu tms s))
