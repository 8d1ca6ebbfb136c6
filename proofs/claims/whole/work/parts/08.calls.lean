/-! calls of contracts over rows -/
section ZCALL
variable {X : zX} {E : zE} {cc : ByteArray} {nL : Nat} {own : String} {rm : Room} {ad : Nat → Nat} {kc ks pc : Nat} {L : List (Option Value)} {st : List Value} {h : zH} {al : Nat} {μ μ' : Nat → Nat → Int32} {pa pa' : Nat → Nat → Int64}
variable {y : MethodName} {b : ByteArray} {maxL n index kb ci N e : Nat} {ret : Option FieldType} {As rest : List Value} {fs : List Value} {T : u_T}
theorem zz_callVr {r : Value} (C : zc X E cc nL own rm) (hR : zRep E ad al μ pa h) (hd : decode cc pc = .ok (.invokevirtual index, 3)) (hl : Cond.methodLink own index y ∈ zt) (hY : zy y b maxL ret n) (hM : rMet X.2.1 y b maxL ret (zR e) E (.ref (ad kb) :: As) ad al μ pa r) (hroom : e + 1 ≤ rm.frames ∧ 8 + (maxL + 11) + 40 * e ≤ rm.locals) (hcells : kc ≤ rm.cells ∧ ks ≤ rm.slots) (hrecv : zb E ad al kb (μ kb) (pa kb) = some (.inr (ci, fs))) (hc : zCl[ci]? = some (y.cls, T, N)) (hst : st = As.reverse ++ .ref (ad kb) :: rest) (hn : As.length = n) (hwd : (rest.map fun v => v.category).sum ≤ 8) (kk : zz X E nL ad kc ks (pc + 3) L (r :: rest) h) : zz X E nL ad kc ks pc L st h :=
  zz_callV C hd hl hY (hM h hR) hroom hcells ((hR kb).trans hrecv) hc hst hn hwd fun r9 ad9 h9 q => by
    obtain ⟨rfl, rfl, rfl⟩ := q
    exact kk
theorem zz_callVw {r : Value} (C : zc X E cc nL own rm) (hR : zRep E ad al μ pa h) (hd : decode cc pc = .ok (.invokevirtual index, 3)) (hl : Cond.methodLink own index y ∈ zt) (hY : zy y b maxL ret n) (hM : wMet X.2.1 y b maxL ret (zR e) E (.ref (ad kb) :: As) ad al μ pa (some r) μ' pa') (hroom : e + 1 ≤ rm.frames ∧ 8 + (maxL + 11) + 40 * e ≤ rm.locals) (hcells : kc ≤ rm.cells ∧ ks ≤ rm.slots) (hrecv : zb E ad al kb (μ kb) (pa kb) = some (.inr (ci, fs))) (hc : zCl[ci]? = some (y.cls, T, N)) (hst : st = As.reverse ++ .ref (ad kb) :: rest) (hn : As.length = n) (hwd : (rest.map fun v => v.category).sum ≤ 8) (kk : ∀ h' : zH, zRep E ad al μ' pa' h' → zz X E nL ad kc ks (pc + 3) L (r :: rest) h') : zz X E nL ad kc ks pc L st h :=
  zz_callV C hd hl hY (hM h hR) hroom hcells ((hR kb).trans hrecv) hc hst hn hwd fun r9 ad9 h9 q => by
    obtain ⟨rfl, rfl, q⟩ := q
    exact kk _ q
theorem zz_callVv (C : zc X E cc nL own rm) (hR : zRep E ad al μ pa h) (hd : decode cc pc = .ok (.invokevirtual index, 3)) (hl : Cond.methodLink own index y ∈ zt) (hY : zy y b maxL ret n) (hM : wMet X.2.1 y b maxL ret (zR e) E (.ref (ad kb) :: As) ad al μ pa none μ' pa') (hroom : e + 1 ≤ rm.frames ∧ 8 + (maxL + 11) + 40 * e ≤ rm.locals) (hcells : kc ≤ rm.cells ∧ ks ≤ rm.slots) (hrecv : zb E ad al kb (μ kb) (pa kb) = some (.inr (ci, fs))) (hc : zCl[ci]? = some (y.cls, T, N)) (hst : st = As.reverse ++ .ref (ad kb) :: rest) (hn : As.length = n) (hwd : (rest.map fun v => v.category).sum ≤ 8) (kk : ∀ h' : zH, zRep E ad al μ' pa' h' → zz X E nL ad kc ks (pc + 3) L rest h') : zz X E nL ad kc ks pc L st h :=
  zz_callV C hd hl hY (hM h hR) hroom hcells ((hR kb).trans hrecv) hc hst hn hwd fun r9 ad9 h9 q => by
    obtain ⟨rfl, rfl, q⟩ := q
    exact kk _ q
theorem zz_callSr {r : Value} (C : zc X E cc nL own rm) (hR : zRep E ad al μ pa h) (hd : decode cc pc = .ok (.invokestatic index, 3)) (hl : Cond.methodLink own index y ∈ zt) (hY : zys y b maxL ret n) (hM : rMet X.2.1 y b maxL ret (zR e) E As ad al μ pa r) (hroom : e + 1 ≤ rm.frames ∧ 8 + (maxL + 11) + 40 * e ≤ rm.locals) (hcells : kc ≤ rm.cells ∧ ks ≤ rm.slots) (hst : st = As.reverse ++ rest) (hn : As.length = n) (hwd : (rest.map fun v => v.category).sum ≤ 8) (kk : zz X E nL ad kc ks (pc + 3) L (r :: rest) h) : zz X E nL ad kc ks pc L st h :=
  zz_callS C hd hl hY (hM h hR) hroom hcells hst hn hwd fun r9 ad9 h9 q => by
    obtain ⟨rfl, rfl, rfl⟩ := q
    exact kk
theorem zz_callSw {r : Value} (C : zc X E cc nL own rm) (hR : zRep E ad al μ pa h) (hd : decode cc pc = .ok (.invokestatic index, 3)) (hl : Cond.methodLink own index y ∈ zt) (hY : zys y b maxL ret n) (hM : wMet X.2.1 y b maxL ret (zR e) E As ad al μ pa (some r) μ' pa') (hroom : e + 1 ≤ rm.frames ∧ 8 + (maxL + 11) + 40 * e ≤ rm.locals) (hcells : kc ≤ rm.cells ∧ ks ≤ rm.slots) (hst : st = As.reverse ++ rest) (hn : As.length = n) (hwd : (rest.map fun v => v.category).sum ≤ 8) (kk : ∀ h' : zH, zRep E ad al μ' pa' h' → zz X E nL ad kc ks (pc + 3) L (r :: rest) h') : zz X E nL ad kc ks pc L st h :=
  zz_callS C hd hl hY (hM h hR) hroom hcells hst hn hwd fun r9 ad9 h9 q => by
    obtain ⟨rfl, rfl, q⟩ := q
    exact kk _ q
theorem zz_callSv (C : zc X E cc nL own rm) (hR : zRep E ad al μ pa h) (hd : decode cc pc = .ok (.invokestatic index, 3)) (hl : Cond.methodLink own index y ∈ zt) (hY : zys y b maxL ret n) (hM : wMet X.2.1 y b maxL ret (zR e) E As ad al μ pa none μ' pa') (hroom : e + 1 ≤ rm.frames ∧ 8 + (maxL + 11) + 40 * e ≤ rm.locals) (hcells : kc ≤ rm.cells ∧ ks ≤ rm.slots) (hst : st = As.reverse ++ rest) (hn : As.length = n) (hwd : (rest.map fun v => v.category).sum ≤ 8) (kk : ∀ h' : zH, zRep E ad al μ' pa' h' → zz X E nL ad kc ks (pc + 3) L rest h') : zz X E nL ad kc ks pc L st h :=
  zz_callS C hd hl hY (hM h hR) hroom hcells hst hn hwd fun r9 ad9 h9 q => by
    obtain ⟨rfl, rfl, q⟩ := q
    exact kk _ q
end ZCALL
