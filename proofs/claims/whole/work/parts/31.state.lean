/-! STATE: what both sides stand for, and the calls on it -/
abbrev ShT : Type := Int × Int × List Int
def PS : Type := (Nat → Option ShT) × List FnT × List TmT × List Int × List (Int × Int) × Int × Int
def mkP (sh : Nat → Option ShT) (fns : List FnT) (tms : List TmT) (gs : List Int) (rd : List (Int × Int)) (tr ft : Int) : PS := (sh, fns, tms, gs, rd, tr, ft)
def PS.sh : PS → Nat → Option ShT := fun P => Prod.fst P
def PS.fns : PS → List FnT := fun P => P.2.1
def PS.tms : PS → List TmT := fun P => P.2.2.1
def PS.gs : PS → List Int := fun P => P.2.2.2.1
def PS.rd : PS → List (Int × Int) := fun P => P.2.2.2.2.1
def PS.tr : PS → Int := fun P => P.2.2.2.2.2.1
def PS.ft : PS → Int := fun P => P.2.2.2.2.2.2
def PS.u2 (P : PS) (tr ft : Int) : PS := mkP P.sh P.fns P.tms P.gs P.rd tr ft
abbrev PS.uf (P : PS) (ft : Int) : PS := P.u2 P.tr ft
def PS.us (P : PS) (sh : Nat → Option ShT) : PS := mkP sh P.fns P.tms P.gs P.rd P.tr P.ft
def PS.un (P : PS) (fns : List FnT) (tms : List TmT) (gs : List Int) (rd : List (Int × Int)) : PS := mkP P.sh fns tms gs rd P.tr P.ft
def rd0 : Int × Int := (0, 0)
/-- what holds of every state that is reached -/
def PV (P : PS) : Prop := P.fns.length ≤ 3 ∧ P.tms.length ≤ 6 ∧ WF P.fns P.tms ∧ GS P.gs ∧ P.gs.length = 3 ∧ (P.fns = [] → P.tms = [] ∧ P.gs = [3, 3, 3]) ∧ P.rd.length ≤ 8 ∧
  (∀ i, i < P.rd.length → 0 ≤ (P.rd.getD i rd0).1 ∧ (P.rd.getD i rd0).1 < P.tms.length) ∧
  ∀ k la sz cs, P.sh k = some (la, sz, cs) → (0 ≤ la ∧ la ≤ 2) ∧ (0 ≤ sz ∧ sz ≤ 60) ∧ cs.length = 60 ∧ ∀ i, inR (cs.getD i 0)
theorem PV.lf {P : PS} (v : PV P) : P.fns.length ≤ 3 := v.1
theorem PV.lt {P : PS} (v : PV P) : P.tms.length ≤ 6 := v.2.1
theorem PV.wf {P : PS} (v : PV P) : WF P.fns P.tms := v.2.2.1
theorem PV.gs {P : PS} (v : PV P) : GS P.gs := v.2.2.2.1
theorem PV.lg {P : PS} (v : PV P) : P.gs.length = 3 := v.2.2.2.2.1
theorem PV.no {P : PS} (v : PV P) : P.fns = [] → P.tms = [] ∧ P.gs = [3, 3, 3] := v.2.2.2.2.2.1
theorem PV.lr {P : PS} (v : PV P) : P.rd.length ≤ 8 := v.2.2.2.2.2.2.1
theorem PV.rt {P : PS} (v : PV P) : ∀ i, i < P.rd.length → 0 ≤ (P.rd.getD i rd0).1 ∧ (P.rd.getD i rd0).1 < P.tms.length := v.2.2.2.2.2.2.2.1
theorem PV.sh {P : PS} (v : PV P) : ∀ k la sz cs, P.sh k = some (la, sz, cs) → (0 ≤ la ∧ la ≤ 2) ∧ (0 ≤ sz ∧ sz ≤ 60) ∧ cs.length = 60 ∧ ∀ i, inR (cs.getD i 0) := v.2.2.2.2.2.2.2.2
abbrev okF (P : PS) (f : Int) : Prop := 0 ≤ f ∧ f < P.fns.length
abbrev okT (P : PS) (t : Int) : Prop := 0 ≤ t ∧ t < P.tms.length
/-- what is against taking cells of a sheet: 0 nothing -/
def agn (P : PS) (k la i m : Int) : Int := match P.sh k.toNat with
  | none => 1
  | some (l, sz, _) => if l ≠ la then 2 else if m < 0 then 4 else if 0 ≤ i ∧ i + m ≤ sz then 0 else 3
def celA (P : PS) (k : Int) : List Int := match P.sh k.toNat with
  | none => []
  | some (_, _, cs) => cs
def flt (P : PS) (x : Int) : Int × PS := (-10 - x, P.uf x)
def op_functions (P : PS) (k la i m : Int) : Int × PS :=
  if ¬ (0 ≤ k ∧ k < 4) then (-1, P.uf 0)
  else if ¬ (0 ≤ la ∧ la < 3) then (-2, P.uf 0)
  else if agn P k la i m ≠ 0 then flt P (agn P k la i m)
  else match ptext (cF (celA P k) i.toNat) m.toNat with
    | (none, a) => (-100 - (a : Int), P.uf 0)
    | (some l, _) => (l.length, (P.uf 0).un (l.map cfn) [] [3, 3, 3] [])
def op_ofFunction (P : PS) (f w : Int) : Int :=
  if ¬ okF P f then -1
  else if 10 ≤ w ∧ w ≤ 12 then (P.fns.getD f.toNat fn0).2.2.2.1.getD (w - 10).toNat 0
  else if w = 0 then (P.fns.getD f.toNat fn0).1
  else if w = 1 then (P.fns.getD f.toNat fn0).2.1
  else if w = 2 then fcost (P.fns.getD f.toNat fn0).1 (P.fns.getD f.toNat fn0).2.1
  else if w = 3 then (P.fns.getD f.toNat fn0).2.2.1 else -2
def addT (P : PS) (x : TmT) : Int × PS := if P.tms.length = 6 then (-4, P) else (P.tms.length, P.un P.fns (P.tms ++ [x]) P.gs P.rd)
def op_leaf (P : PS) (so v : Int) : Int × PS :=
  if P.fns.length = 0 then (-3, P) else if ¬ (0 ≤ v ∧ v < 3) then (-2, P) else addT P (so, v, -9, -9)
def op_apply (P : PS) (f a b : Int) : Int × PS := if ¬ (okF P f ∧ okT P a ∧ okT P b) then (-1, P) else addT P (2, f, a, b)
def op_drop (P : PS) : Int × PS := if P.tms.length = 0 then (-3, P) else (P.tms.length - 1, P.un P.fns P.tms.dropLast P.gs (P.rd.filter (fun x => x.1 ≠ P.tms.length - 1)))
def op_ofTerm (P : PS) (t w : Int) : Int :=
  if ¬ okT P t then -1
  else if w = 0 then (P.tms.getD t.toNat tm0).1
  else if w = 1 then (P.tms.getD t.toNat tm0).2.1
  else if w = 2 then (P.tms.getD t.toNat tm0).2.2.1
  else if w = 3 then (P.tms.getD t.toNat tm0).2.2.2 else -2
def setP (F : FnT) (v : Int) : FnT := (F.1, v, F.2.2)
def op_price (P : PS) (f v : Int) : Int × PS :=
  if ¬ okF P f then (-1, P) else if ¬ (1 ≤ v ∧ v ≤ 9) then (-2, P)
  else ((P.fns.getD f.toNat fn0).2.1, P.un (P.fns.set f.toNat (setP (P.fns.getD f.toNat fn0) v)) P.tms P.gs P.rd)
def op_given (P : PS) (x v : Int) : Int × PS :=
  if P.fns.length = 0 then (-3, P) else if ¬ ((0 ≤ x ∧ x < 3) ∧ (0 ≤ v ∧ v < 4)) then (-2, P)
  else (P.gs.getD x.toNat 0, P.un P.fns P.tms (P.gs.set x.toNat v) P.rd)
def need1 (o : Int) : Int := if o < 3 then 0 else if o = 3 then 3 else if o < 8 then 1 else 2
def need2 (o : Int) : Int := if o < 3 then o else if o = 3 then -9 else if o < 8 then o - 4 else o - 8
def op_needs (P : PS) (t w : Int) : Int :=
  if ¬ okT P t then -1 else if ¬ (0 ≤ w ∧ w < 3) then -2
  else if w = 2 then (evS P.fns P.tms t.toNat (st0 P.gs)).2
  else if w = 0 then need1 (evS P.fns P.tms t.toNat (st0 P.gs)).1 else need2 (evS P.fns P.tms t.toNat (st0 P.gs)).1
def row1 (fns : List FnT) (tms : List TmT) (gs : List Int) (t : Nat) : List Int := rowL fns tms t (st0 gs)
/-- what answers tells of a term: how many, the set of values, how many stands, the least price -/
def askR (fns : List FnT) (tms : List TmT) (gs : List Int) (t : Nat) (w : Int) : Int :=
  if w = 0 then fo (fCt (evS fns tms t)) 0 (row1 fns tms gs t) (row1 fns tms gs t).length
  else if w = 1 then fo (fVs (evS fns tms t)) 0 (row1 fns tms gs t) (row1 fns tms gs t).length
  else if w = 2 then (row1 fns tms gs t).length
  else fo (fLp fns tms (evS fns tms t)) (-9) (row1 fns tms gs t) (row1 fns tms gs t).length
def op_answers (P : PS) (t w : Int) : Int :=
  if ¬ okT P t then -1 else if ¬ (0 ≤ w ∧ w < 4) then -2 else askR P.fns P.tms P.gs t.toNat w
def op_reading (P : PS) (t c : Int) : Int × PS :=
  if ¬ okT P t then (-1, P) else if c ≠ -9 ∧ ¬ (0 ≤ c ∧ c < 201) then (-2, P)
  else if P.rd.length = 8 then (-4, P) else (P.rd.length, P.un P.fns P.tms P.gs (P.rd ++ [(t, c)]))
def op_back (P : PS) (m : Int) : Int × PS := if ¬ (0 ≤ m ∧ m ≤ P.rd.length) then (-2, P) else (P.rd.length - m, P.un P.fns P.tms P.gs (P.rd.take (P.rd.length - m.toNat)))
def okR (fns : List FnT) (tms : List TmT) (gs : List Int) (x : Int × Int) : Bool := askR fns tms gs x.1.toNat 3 = x.2
def areR (fns : List FnT) (tms : List TmT) (gs : List Int) (rd : List (Int × Int)) : Bool := rd.all (okR fns tms gs)
def b1 (b : Bool) (x : Int) (a : Int) : Int := if b then am_or a (am_shl 1 x) else a
def setK (F : FnT) (v : Int) : FnT := (v, F.2)
def setA (F : FnT) (v : Int) : FnT := (F.1, F.2.1, v, F.2.2.2)
def triK (P : PS) (f : Nat) (v : Int) : Bool := areR (P.fns.set f (setK (P.fns.getD f fn0) v)) P.tms P.gs P.rd
def triA (P : PS) (f : Nat) (v : Int) : Bool := areR (P.fns.set f (setA (P.fns.getD f fn0) v)) P.tms P.gs P.rd
def op_kinds (P : PS) (f : Int) : Int := if ¬ okF P f then -1 else b1 (triK P f.toNat 2) 2 (b1 (triK P f.toNat 1) 1 (b1 (triK P f.toNat 0) 0 0))
def op_branches (P : PS) (f : Int) : Int := if ¬ okF P f then -1 else b1 (triA P f.toNat 1) 1 (b1 (triA P f.toNat 0) 0 0)
def setS (P : PS) (k : Nat) (x : Option ShT) : PS := P.us (fun q => if q = k then x else P.sh q)
def op_sheet (P : PS) (k la m : Int) : Int × PS :=
  if ¬ (0 ≤ k ∧ k < 4) then (-1, P.uf 0)
  else if ¬ (0 ≤ la ∧ la < 3) ∨ 60 < m then (-2, P.uf 0)
  else if m < 0 then flt P 4
  else (1, setS (P.uf 0) k.toNat (some (la, m, List.replicate 60 0)))
def op_lose (P : PS) (k : Int) : Int × PS :=
  if ¬ (0 ≤ k ∧ k < 4) then (-1, P) else (if P.sh k.toNat = none then 0 else 1, setS P k.toNat none)
def cutV (la v : Int) : Int := if la = 0 then am_b8 v else if la = 1 then am_s16 v else v
def op_put (P : PS) (k i v : Int) : Int × PS :=
  if ¬ (0 ≤ k ∧ k < 4) then (-1, P.uf 0)
  else match P.sh k.toNat with
    | none => flt P 1
    | some (la, sz, cs) => if ¬ (0 ≤ i ∧ i < sz) then flt P 3 else (1, setS (P.uf 0) k.toNat (some (la, sz, cs.set i.toNat (cutV la v))))
def lostV : Int := -9223372036854775808
def op_cell (P : PS) (k i la : Int) : Int × PS :=
  if ¬ ((0 ≤ k ∧ k < 4) ∧ (0 ≤ la ∧ la < 3)) then (lostV, P.uf 0)
  else match P.sh k.toNat with
    | none => (lostV, P.uf 1)
    | some (l, sz, cs) => if l ≠ la then (lostV, P.uf 2) else if ¬ (0 ≤ i ∧ i < sz) then (lostV, P.uf 3) else (cs.getD i.toNat 0, P.uf 0)
def op_copy (P : PS) (k i o j m : Int) : Int × PS :=
  if ¬ ((0 ≤ k ∧ k < 4) ∧ (0 ≤ o ∧ o < 4)) then (-1, P.uf 0)
  else match P.sh k.toNat, P.sh o.toNat with
    | some (l1, s1, c1), some (l2, s2, c2) =>
      if l1 ≠ l2 then flt P 2
      else if ¬ ((0 ≤ i ∧ 0 ≤ m ∧ i + m ≤ s1) ∧ (0 ≤ j ∧ 0 ≤ m ∧ j + m ≤ s2)) then flt P 3
      else (m, setS (P.uf 0) o.toNat (some (l2, s2, am_cpy c1 c2 i.toNat j.toNat m.toNat)))
    | _, _ => flt P 1
def trc (P : PS) (b : Int) : PS := P.u2 (wr (wr (31 * P.tr) + b)) P.ft
def op_tell (P : PS) (f : Int) : Int × PS :=
  if ¬ okF P f then (-1, P)
  else if (P.fns.getD f.toNat fn0).1 = 2 then (2 * (P.fns.getD f.toNat fn0).2.1 + 100, trc (trc (trc (trc P 3) 2) 1) 1)
  else if (P.fns.getD f.toNat fn0).1 = 1 then ((P.fns.getD f.toNat fn0).2.1 + 100, trc (trc P 2) 1)
  else ((P.fns.getD f.toNat fn0).2.1, trc P 1)
def op_note (P : PS) (f : Int) : Int × PS :=
  if ¬ okF P f then (-1, P) else if (P.fns.getD f.toNat fn0).1 = 2 then (30, trc P 5) else (f, trc P 4)
def op_as (P : PS) (f s : Int) : Int × PS :=
  if ¬ okF P f then (-1, P.uf 0) else if ¬ (0 ≤ s ∧ s < 3) then (-2, P.uf 0)
  else if s ≤ (P.fns.getD f.toNat fn0).1 then (1, P.uf 0) else flt P 2
def op_many (P : PS) (w : Int) : Int := if w = 0 then P.fns.length else if w = 1 then P.tms.length else if w = 2 then sm 3 (gvc P.gs) else if w = 3 then P.rd.length else -2
