/-! ODDS 4: what all throws come to -/
theorem evt_mo {fns : List FnT} {tms : List TmT} {bd bd' : Int → Int} {pk pk' : Nat → Int} (hwf : WF fns tms) (hl : tms.length ≤ 6) (hb : ∀ x, 0 ≤ x ∧ x ≤ 2 → 0 ≤ bd x ∧ bd x ≤ 3) (hb' : ∀ x, 0 ≤ x ∧ x ≤ 2 → bd x ≠ 3 → bd' x = bd x) (hp' : ∀ t, t < tms.length → pk t ≠ 0 → pk' t = pk t) : ∀ t, t < tms.length → (evt fns tms bd pk t).1 ≤ 3 → (evt fns tms bd' pk' t).1 = (evt fns tms bd pk t).1 := by
  intro t
  induction t using Nat.strongRecOn with
  | _ t ih =>
    intro ht h3
    have hx := hwf.2 t _ (gd_get tm0 ht)
    have hev : evt fns tms bd pk t = ev1 fns bd pk (evp fns tms bd pk t) (tms.getD t tm0) := rfl
    have hev' : evt fns tms bd' pk' t = ev1 fns bd' pk' (evp fns tms bd' pk' t) (tms.getD t tm0) := rfl
    unfold ev1 at hev hev'
    rcases hx with ⟨e, h1, h2⟩ | ⟨e, h1, h2⟩ | ⟨e, ⟨h1, h2⟩, ⟨h5, h4⟩, h7, h6⟩
    · rw [if_pos e] at hev hev'
      rw [hev, hev']
    · have e0 : ¬ (tms.getD t tm0).1 = 0 := by omega
      rw [if_neg e0, if_pos e] at hev hev'
      rw [hev] at h3 ⊢
      rw [hev']
      dsimp only at h3 ⊢
      have := hb _ ⟨h1, h2⟩
      by_cases q : bd (tms.getD t tm0).2.1 = 3
      · rw [if_pos q] at h3; omega
      · rw [hb' _ ⟨h1, h2⟩ q]
    · have e0 : ¬ (tms.getD t tm0).1 = 0 := by omega
      have e1 : ¬ (tms.getD t tm0).1 = 1 := by omega
      rw [if_neg e0, if_neg e1] at hev hev'
      dsimp only at hev hev'
      generalize fns.getD (tms.getD t tm0).2.1.toNat fn0 = F at *
      have iA : (if F.2.2.1 = 0 then (tms.getD t tm0).2.2.1 else (tms.getD t tm0).2.2.2).toNat < t := by split <;> omega
      have iB : (if F.2.2.1 = 0 then (tms.getD t tm0).2.2.2 else (tms.getD t tm0).2.2.1).toNat < t := by split <;> omega
      rw [evp_get t _ iA, evp_get t _ iB, evp_len] at hev hev'
      have hA := ih _ iA (by omega)
      have hB := ih _ iB (by omega)
      generalize evt fns tms bd pk (if F.2.2.1 = 0 then (tms.getD t tm0).2.2.1 else (tms.getD t tm0).2.2.2).toNat = A at *
      generalize evt fns tms bd pk (if F.2.2.1 = 0 then (tms.getD t tm0).2.2.2 else (tms.getD t tm0).2.2.1).toNat = B at *
      generalize evt fns tms bd' pk' (if F.2.2.1 = 0 then (tms.getD t tm0).2.2.1 else (tms.getD t tm0).2.2.2).toNat = A' at *
      generalize evt fns tms bd' pk' (if F.2.2.1 = 0 then (tms.getD t tm0).2.2.2 else (tms.getD t tm0).2.2.1).toNat = B' at *
      rw [hev] at h3 ⊢
      rw [hev']
      by_cases q : 3 ≤ A.1
      · rw [if_pos q] at h3 ⊢
        have hA := hA h3
        rw [if_pos (by omega)]
        exact hA
      · rw [if_neg q] at h3 ⊢
        have hA := hA (by omega)
        rw [if_neg (by omega), hA]
        by_cases q1 : F.2.2.2.1.getD A.1.toNat 0 < 3
        · rw [if_pos q1, if_pos q1]
        · rw [if_neg q1] at h3 ⊢
          rw [if_neg q1]
          by_cases q2 : F.2.2.2.1.getD A.1.toNat 0 = 4
          · rw [if_pos q2, if_pos q2]
          · rw [if_neg q2] at h3 ⊢
            rw [if_neg q2]
            by_cases q3 : 5 ≤ F.2.2.2.1.getD A.1.toNat 0 ∧ F.2.2.2.1.getD A.1.toNat 0 < 14
            · rw [if_pos q3] at h3 ⊢
              rw [if_pos q3]
              dsimp only at h3 ⊢
              by_cases q4 : pk t = 0
              · rw [if_pos q4] at h3; omega
              · rw [hp' t ht q4]
            · rw [if_neg q3] at h3 ⊢
              rw [if_neg q3]
              dsimp only at h3 ⊢
              by_cases q5 : F.2.2.2.1.getD A.1.toNat 0 = 3 ∨ 3 ≤ B.1
              · rw [if_pos q5] at h3 ⊢
                have hB := hB h3
                rw [if_pos (by omega)]
                exact hB
              · rw [if_neg q5]
                have hB := hB (by omega)
                rw [if_neg (by omega), hB]
/-- a throw agrees with a stand -/
def AGP (T : Nat) (s : Int) (L : List Int) : Prop := (∀ x : Nat, x < 3 → st_bound s x ≠ 3 → L.getD x 0 = st_bound s x) ∧ ∀ t, t < T → cpk s t ≠ 0 → L.getD (3 + t) 0 = cpk s t
noncomputable def ag (T : Nat) (s : Int) (L : List Int) : Nat := @ite Nat (AGP T s L) (Classical.propDecidable _) 1 0
theorem ag_1 {T : Nat} {s : Int} {L : List Int} (h : AGP T s L) : ag T s L = 1 := by unfold ag; rw [if_pos h]
theorem ag_0 {T : Nat} {s : Int} {L : List Int} (h : ¬ AGP T s L) : ag T s L = 0 := by unfold ag; rw [if_neg h]
theorem ag_eq {T : Nat} {s s' : Int} {L L' : List Int} (h : AGP T s L ↔ AGP T s' L') : ag T s L = ag T s' L' := by
  by_cases q : AGP T s L
  · rw [ag_1 q, ag_1 (h.1 q)]
  · rw [ag_0 q, ag_0 (fun z => q (h.2 z))]
theorem AG_bind {T : Nat} {s : Int} {L : List Int} {x w : Nat} (hT : T ≤ 6) (hx : x < 3) (hw : w < 3) (h3 : st_bound s x = 3) : AGP T (st_bind s x w) L ↔ (AGP T s L ∧ L.getD x 0 = w) := by
  constructor
  · rintro ⟨h1, h2⟩
    refine ⟨⟨fun y hy hn => ?_, fun t ht hn => ?_⟩, ?_⟩
    · have := h1 y hy
      rw [bound_bind hx (by omega) hy] at this
      by_cases q : y = x
      · subst q; exact absurd h3 hn
      · rw [if_neg q] at this; exact this hn
    · have := h2 t ht
      rw [cpk_bind hx (by omega) (by omega)] at this
      exact this hn
    · have := h1 x hx
      rw [bound_bind hx (by omega) hx, if_pos rfl] at this
      exact this (by omega)
  · rintro ⟨⟨h1, h2⟩, h4⟩
    refine ⟨fun y hy hn => ?_, fun t ht hn => ?_⟩
    · rw [bound_bind hx (by omega) hy] at hn ⊢
      by_cases q : y = x
      · subst q; rw [if_pos rfl]; exact h4
      · rw [if_neg q] at hn ⊢; exact h1 y hy hn
    · rw [cpk_bind hx (by omega) (by omega)] at hn ⊢
      exact h2 t ht hn
theorem AG_pick {T : Nat} {s : Int} {L : List Int} {t z : Nat} (hT : T ≤ 6) (ht : t < T) (hz : z < 2) (vs : VS s) (h0 : cpk s t = 0) : AGP T (st_pick s t z) L ↔ (AGP T s L ∧ L.getD (3 + t) 0 = ((z + 1 : Nat) : Int)) := by
  have hb := vs t (by omega) ((cpk_0 (by omega)).1 h0)
  constructor
  · rintro ⟨h1, h2⟩
    refine ⟨⟨fun y hy hn => ?_, fun j hj hn => ?_⟩, ?_⟩
    · have := h1 y hy
      rw [bound_pick (by omega) hz hy] at this
      exact this hn
    · have := h2 j hj
      rw [cpk_pick (by omega) hz (by omega) hb] at this
      by_cases q : j = t
      · subst q; exact absurd h0 hn
      · rw [if_neg q] at this; exact this hn
    · have := h2 t ht
      rw [cpk_pick (by omega) hz (by omega) hb, if_pos rfl] at this
      exact this (by omega)
  · rintro ⟨⟨h1, h2⟩, h4⟩
    refine ⟨fun y hy hn => ?_, fun j hj hn => ?_⟩
    · rw [bound_pick (by omega) hz hy] at hn ⊢
      exact h1 y hy hn
    · rw [cpk_pick (by omega) hz (by omega) hb] at hn ⊢
      by_cases q : j = t
      · subst q; rw [if_pos rfl]; exact h4
      · rw [if_neg q] at hn ⊢; exact h2 j hj hn
theorem ag_bind3 {T : Nat} {s : Int} {L : List Int} {x : Nat} (hT : T ≤ 6) (hx : x < 3) (h3 : st_bound s x = 3) (hd : 0 ≤ L.getD x 0 ∧ L.getD x 0 ≤ 2) : ag T (st_bind s x 0) L + ag T (st_bind s x 1) L + ag T (st_bind s x 2) L = ag T s L := by
  have b0 := AG_bind (L := L) (w := 0) hT hx (by omega) h3
  have b1 := AG_bind (L := L) (w := 1) hT hx (by omega) h3
  have b2 := AG_bind (L := L) (w := 2) hT hx (by omega) h3
  rw [show ((0 : Nat) : Int) = 0 from rfl] at b0
  rw [show ((1 : Nat) : Int) = 1 from rfl] at b1
  rw [show ((2 : Nat) : Int) = 2 from rfl] at b2
  by_cases q : AGP T s L
  · rw [ag_1 q]
    rcases (by omega : L.getD x 0 = 0 ∨ L.getD x 0 = 1 ∨ L.getD x 0 = 2) with e | e | e
    · rw [ag_1 (b0.2 ⟨q, e⟩), ag_0 (fun z => by have := (b1.1 z).2; omega), ag_0 (fun z => by have := (b2.1 z).2; omega)]
    · rw [ag_0 (fun z => by have := (b0.1 z).2; omega), ag_1 (b1.2 ⟨q, e⟩), ag_0 (fun z => by have := (b2.1 z).2; omega)]
    · rw [ag_0 (fun z => by have := (b0.1 z).2; omega), ag_0 (fun z => by have := (b1.1 z).2; omega), ag_1 (b2.2 ⟨q, e⟩)]
  · rw [ag_0 q, ag_0 (fun z => q (b0.1 z).1), ag_0 (fun z => q (b1.1 z).1), ag_0 (fun z => q (b2.1 z).1)]
theorem ag_pick2 {T : Nat} {s : Int} {L : List Int} {t : Nat} (hT : T ≤ 6) (ht : t < T) (vs : VS s) (h0 : cpk s t = 0) (hd : 1 ≤ L.getD (3 + t) 0 ∧ L.getD (3 + t) 0 ≤ 2) : ag T (st_pick s t 0) L + ag T (st_pick s t 1) L = ag T s L := by
  have b0 := AG_pick (L := L) (z := 0) hT ht (by omega) vs h0
  have b1 := AG_pick (L := L) (z := 1) hT ht (by omega) vs h0
  rw [show ((0 : Nat) : Int) = 0 from rfl, show ((0 + 1 : Nat) : Int) = 1 from rfl] at b0
  rw [show ((1 : Nat) : Int) = 1 from rfl, show ((1 + 1 : Nat) : Int) = 2 from rfl] at b1
  by_cases q : AGP T s L
  · rw [ag_1 q]
    rcases (by omega : L.getD (3 + t) 0 = 1 ∨ L.getD (3 + t) 0 = 2) with e | e
    · rw [ag_1 (b0.2 ⟨q, e⟩), ag_0 (fun z => by have := (b1.1 z).2; omega)]
    · rw [ag_0 (fun z => by have := (b0.1 z).2; omega), ag_1 (b1.2 ⟨q, e⟩)]
  · rw [ag_0 q, ag_0 (fun z => q (b0.1 z).1), ag_0 (fun z => q (b1.1 z).1)]
