/-! MODEL 24: odds -/
section
variable {d n : Nat} {h : am_H} {K : am_K} {P : PS}
theorem ml_odds {t v w : Int} (pv : PV P) (c : MR h P) (k : ∀ h', MR h' P → FrM h h' → K (some (lV (op_odds P t v w))) n h') : am_M (d + 6) 150 [rV 58, iV t, iV v, iV w] n h K := by
  sorry
end
