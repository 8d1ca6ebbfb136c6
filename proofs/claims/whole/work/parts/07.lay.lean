/-! THE LAYOUT: a cell by its key, out of a row of ints (fields by their places, or elements) and a row of longs. 0 .. 39 the class, 40 .. 63 the model, 100 + 4 j .. the nodes (node, box, low, high) -/
def zb (E : zE) (ad : Nat → Nat) (al : Nat) (k : Nat) (row : Nat → Int32) (rl : Nat → Int64) : Option va_E := match k with
  | 0 => some (.inr (0, [.ref (ad 1), .ref (ad 9), .ref (ad 11), .ref (ad 14), .ref (ad 17), .ref (ad 18), .ref (ad 22), .ref (ad 23)]))
  | 1 => some (.inr (6, [.ref (ad 2), .ref (ad 3), .ref (ad 4), .ref (ad 5), .ref (ad 6), .ref (ad 7), .ref (ad 8), .int (row 7), .int (row 8), .int (row 9)]))
  | 2 => some (.inl (E.2 0, 8, .inl row))
  | 3 => some (.inl (E.2 0, 8, .inl row))
  | 4 => some (.inl (E.2 0, 8, .inl row))
  | 5 => some (.inl (E.2 0, 16, .inl row))
  | 6 => some (.inl (E.2 0, 16, .inl row))
  | 7 => some (.inl (E.2 1, 16, .inl row))
  | 8 => some (.inl (E.2 4, 16, .inr (.inr (.inr (.inr (fun r => if r < 16 then some (ad (24 + r)) else none))))))
  | 9 => some (.inr (1, [.ref (ad 10), .int (row 1), .int (row 2)]))
  | 10 => some (.inl (E.2 0, 8, .inl row))
  | 11 => some (.inr (5, [.ref (ad 12), .ref (ad 13)]))
  | 12 => some (.inl (E.2 2, 8, .inr (.inl rl)))
  | 13 => some (.inl (E.2 0, 8, .inl row))
  | 14 => some (.inr (9, [.ref (ad 15), .int (row 1), .int (row 2)]))
  | 15 => some (.inl (E.2 3, 600, .inr (.inr (.inr (.inr (fun j => if j < al then some (ad (100 + 4 * j)) else none))))))
  | 16 => some (.inr (3, [.ref (ad 1), .ref (ad 9), .int (row 2)]))
  | 17 => some (.inr (8, [.ref (ad 1), .ref (ad 9), .ref (ad 11), .ref (ad 14), .ref (ad 16), .ref (ad 22)]))
  | 18 => some (.inr (7, [.ref (ad 1), .ref (ad 14), .ref (ad 16), .ref (ad 19)]))
  | 19 => some (.inr (2, [.ref (ad 20), .ref (ad 21)]))
  | 20 => some (.inl (E.2 0, 8, .inl row))
  | 21 => some (.inl (E.2 0, 8, .inl row))
  | 22 => some (.inl (E.2 0, 3, .inl row))
  | 23 => some (.inl (E.2 0, 8, .inl row))
  | 24 => some (.inl (E.2 0, 8, .inl row))
  | 25 => some (.inl (E.2 0, 8, .inl row))
  | 26 => some (.inl (E.2 0, 8, .inl row))
  | 27 => some (.inl (E.2 0, 8, .inl row))
  | 28 => some (.inl (E.2 0, 8, .inl row))
  | 29 => some (.inl (E.2 0, 8, .inl row))
  | 30 => some (.inl (E.2 0, 8, .inl row))
  | 31 => some (.inl (E.2 0, 8, .inl row))
  | 32 => some (.inl (E.2 0, 8, .inl row))
  | 33 => some (.inl (E.2 0, 8, .inl row))
  | 34 => some (.inl (E.2 0, 8, .inl row))
  | 35 => some (.inl (E.2 0, 8, .inl row))
  | 36 => some (.inl (E.2 0, 8, .inl row))
  | 37 => some (.inl (E.2 0, 8, .inl row))
  | 38 => some (.inl (E.2 0, 8, .inl row))
  | 39 => some (.inl (E.2 0, 8, .inl row))
  | 40 => some (.inr (10, [.int (row 0), .int (row 1), .ref (ad 41), .ref (ad 42), .ref (ad 43), .ref (ad 44), .ref (ad 45), .ref (ad 46), .int (row 8), .ref (ad 47), .ref (ad 48), .ref (ad 49), .ref (ad 50), .ref (ad 51), .int (row 14), .int (row 15), .ref (ad 52), .int (row 17), .int (row 18), .ref (ad 53), .ref (ad 54), .ref (ad 55), .ref (ad 56), .ref (ad 57), .ref (ad 58), .ref (ad 59), .ref (ad 60), .ref (ad 61), .ref (ad 62), .ref (ad 63), .int (row 30)]))
  | 41 => some (.inl (E.2 0, 8, .inl row))
  | 42 => some (.inl (E.2 0, 8, .inl row))
  | 43 => some (.inl (E.2 2, 8, .inr (.inl rl)))
  | 44 => some (.inl (E.2 0, 8, .inl row))
  | 45 => some (.inl (E.2 0, 8, .inl row))
  | 46 => some (.inl (E.2 0, 8, .inl row))
  | 47 => some (.inl (E.2 0, 128, .inl row))
  | 48 => some (.inl (E.2 0, 16, .inl row))
  | 49 => some (.inl (E.2 0, 16, .inl row))
  | 50 => some (.inl (E.2 1, 16, .inl row))
  | 51 => some (.inl (E.2 0, 3, .inl row))
  | 52 => some (.inl (E.2 0, 8, .inl row))
  | 53 => some (.inl (E.2 0, 600, .inl row))
  | 54 => some (.inl (E.2 0, 600, .inl row))
  | 55 => some (.inl (E.2 0, 600, .inl row))
  | 56 => some (.inl (E.2 0, 600, .inl row))
  | 57 => some (.inl (E.2 0, 600, .inl row))
  | 58 => some (.inl (E.2 0, 600, .inl row))
  | 59 => some (.inl (E.2 0, 600, .inl row))
  | 60 => some (.inl (E.2 0, 4800, .inl row))
  | 61 => some (.inl (E.2 0, 4800, .inl row))
  | 62 => some (.inl (E.2 0, 8, .inl row))
  | 63 => some (.inl (E.2 0, 8, .inl row))
  | k => if 100 ≤ k ∧ (k - 100) / 4 < al then (if (k - 100) % 4 = 0 then some (.inr (4, [.int (row 0), .ref (ad (k + 1)), .int (row 2), .int (row 3), .int (row 4), .int (row 5), .int (row 6), .int (row 7), .int (row 8), .int (row 9), .int (row 10), .int (row 11)]))
    else if (k - 100) % 4 = 1 then some (.inr (2, [.ref (ad (k + 1)), .ref (ad (k + 2))])) else some (.inl (E.2 0, 8, .inl row))) else none
/-- the pure heap holds the rows μ, the long rows pa -/
def zRep (E : zE) (ad : Nat → Nat) (al : Nat) (μ : Nat → Nat → Int32) (pa : Nat → Nat → Int64) (h : zH) : Prop := ∀ k : Nat, zg h k = zb E ad al k (μ k) (pa k)
theorem zRep.put {E : zE} {ad : Nat → Nat} {al : Nat} {μ : Nat → Nat → Int32} {pa : Nat → Nat → Int64} {h h' : zH} (hR : zRep E ad al μ pa h) {k : Nat} {x : va_E} (e : zg h' k = some x) (f : ∀ i, i ≠ k → zg h' i = zg h i) {row : Nat → Int32} (hw : zb E ad al k row (pa k) = some x) : zRep E ad al (va_up μ k row) pa h' := by
  intro i
  by_cases q : i = k
  · subst q; rw [va_up_self, e, hw]
  · rw [va_up_ne _ _ q, f i q, hR i]
theorem zRep.putL {E : zE} {ad : Nat → Nat} {al : Nat} {μ : Nat → Nat → Int32} {pa : Nat → Nat → Int64} {h h' : zH} (hR : zRep E ad al μ pa h) {k : Nat} {x : va_E} (e : zg h' k = some x) (f : ∀ i, i ≠ k → zg h' i = zg h i) {rl : Nat → Int64} (hw : zb E ad al k (μ k) rl = some x) : zRep E ad al μ (va_up pa k rl) h' := by
  intro i
  by_cases q : i = k
  · subst q; rw [va_up_self, e, hw]
  · rw [va_up_ne _ _ q, f i q, hR i]
theorem zb_nd0 (E : zE) (ad : Nat → Nat) {al j : Nat} (hj : j < al) (row : Nat → Int32) (rl : Nat → Int64) : zb E ad al (100 + 4 * j) row rl = some (.inr (4, [.int (row 0), .ref (ad (100 + 4 * j + 1)), .int (row 2), .int (row 3), .int (row 4), .int (row 5), .int (row 6), .int (row 7), .int (row 8), .int (row 9), .int (row 10), .int (row 11)])) := by
  obtain ⟨m, hm⟩ : ∃ m, 100 + 4 * j = m + 64 := ⟨36 + 4 * j, by omega⟩
  rw [hm]
  unfold zb
  simp only []
  rw [if_pos (by omega), if_pos (by omega)]
theorem zb_nd1 (E : zE) (ad : Nat → Nat) {al j : Nat} (hj : j < al) (row : Nat → Int32) (rl : Nat → Int64) : zb E ad al (100 + 4 * j + 1) row rl = some (.inr (2, [.ref (ad (100 + 4 * j + 2)), .ref (ad (100 + 4 * j + 3))])) := by
  obtain ⟨m, hm⟩ : ∃ m, 100 + 4 * j = m + 64 := ⟨36 + 4 * j, by omega⟩
  rw [hm]
  show zb E ad al (m + 65) row rl = _
  unfold zb
  simp only []
  rw [if_pos (by omega), if_neg (by omega), if_pos (by omega)]
theorem zb_nd2 (E : zE) (ad : Nat → Nat) {al j : Nat} (hj : j < al) (row : Nat → Int32) (rl : Nat → Int64) : zb E ad al (100 + 4 * j + 2) row rl = some (.inl (E.2 0, 8, .inl row)) := by
  obtain ⟨m, hm⟩ : ∃ m, 100 + 4 * j = m + 64 := ⟨36 + 4 * j, by omega⟩
  rw [hm]
  show zb E ad al (m + 66) row rl = _
  unfold zb
  simp only []
  rw [if_pos (by omega), if_neg (by omega), if_neg (by omega)]
theorem zb_nd3 (E : zE) (ad : Nat → Nat) {al j : Nat} (hj : j < al) (row : Nat → Int32) (rl : Nat → Int64) : zb E ad al (100 + 4 * j + 3) row rl = some (.inl (E.2 0, 8, .inl row)) := by
  obtain ⟨m, hm⟩ : ∃ m, 100 + 4 * j = m + 64 := ⟨36 + 4 * j, by omega⟩
  rw [hm]
  show zb E ad al (m + 67) row rl = _
  unfold zb
  simp only []
  rw [if_pos (by omega), if_neg (by omega), if_neg (by omega)]
/-- a row of the factors -/
theorem zb_row (E : zE) (ad : Nat → Nat) (al : Nat) {r : Nat} (hr : r < 16) (row : Nat → Int32) (rl : Nat → Int64) : zb E ad al (24 + r) row rl = some (.inl (E.2 0, 8, .inl row)) := by
  match r, hr with

  | 0, _ => rfl
  | 1, _ => rfl
  | 2, _ => rfl
  | 3, _ => rfl
  | 4, _ => rfl
  | 5, _ => rfl
  | 6, _ => rfl
  | 7, _ => rfl
  | 8, _ => rfl
  | 9, _ => rfl
  | 10, _ => rfl
  | 11, _ => rfl
  | 12, _ => rfl
  | 13, _ => rfl
  | 14, _ => rfl
  | 15, _ => rfl
  | r + 16, hr => omega
/-- an int array of n places, a box with its two arrays: whatever the rows hold -/
def isA (E : zE) (ad : Nat → Nat) (al k n : Nat) : Prop := ∀ (row : Nat → Int32) (rl : Nat → Int64), zb E ad al k row rl = some (.inl (E.2 0, n, .inl row))
def isB (E : zE) (ad : Nat → Nat) (al kb kl kh : Nat) : Prop := ∀ (row : Nat → Int32) (rl : Nat → Int64), zb E ad al kb row rl = some (.inr (2, [.ref (ad kl), .ref (ad kh)]))
section ZM
variable {X : zX} {E : zE} {cc : ByteArray} {nL : Nat} {own : String} {rm : Room} {ad : Nat → Nat} {kc ks pc : Nat} {L : List (Option Value)} {st : List Value} {h : zH} {al : Nat} {μ : Nat → Nat → Int32} {pa : Nat → Nat → Int64}
theorem zz_putI (C : zc X E cc nL own rm) (hR : zRep E ad al μ pa h) {index ci j k : Nat} {fs : List Value} {v : Int32} {ty : FieldType} (hd : decode cc pc = .ok (.putfield index, 3)) (hf : zfp own index ci j ty) (he : zb E ad al k (μ k) (pa k) = some (.inr (ci, fs))) (hn : narrow ty (.int v) = .int v) (hfit : fits ty (.int v) = true) (hl : j < fs.length) (hw : zb E ad al k (upd (μ k) j v) (pa k) = some (.inr (ci, fs.set j (.int v)))) (kk : ∀ h' : zH, zRep E ad al (va_up μ k (upd (μ k) j v)) pa h' → zz X E nL ad kc ks (pc + 3) L st h') : zz X E nL ad kc ks pc L (.int v :: .ref (ad k) :: st) h :=
  zz_put C hd hf ((hR k).trans he) hn hfit hl fun h' e f => kk h' (hR.put e f hw)
theorem zz_iastR (C : zc X E cc nL own rm) (hR : zRep E ad al μ pa h) {k n j : Nat} {i x : Int32} (hd : decode cc pc = .ok (.iastore, 1)) (he : ∀ row rl, zb E ad al k row rl = some (.inl (E.2 0, n, .inl row))) (hi : i = nI j) (hj : j < n) (hn : n < 2 ^ 31) (kk : ∀ h' : zH, zRep E ad al (va_up μ k (upd (μ k) j x)) pa h' → zz X E nL ad kc ks (pc + 1) L st h') : zz X E nL ad kc ks pc L (.int x :: .int i :: .ref (ad k) :: st) h :=
  zz_iast C 0 hd ((hR k).trans (he _ _)) rfl hi hj hn fun h' e f => kk h' (hR.put e f (he _ _))
theorem zz_zastR (C : zc X E cc nL own rm) (hR : zRep E ad al μ pa h) {k n j : Nat} {i x : Int32} (hd : decode cc pc = .ok (.bastore, 1)) (he : ∀ row rl, zb E ad al k row rl = some (.inl (E.2 1, n, .inl row))) (hi : i = nI j) (hj : j < n) (hn : n < 2 ^ 31) (hx : vp_nar .boolean x = x) (kk : ∀ h' : zH, zRep E ad al (va_up μ k (upd (μ k) j x)) pa h' → zz X E nL ad kc ks (pc + 1) L st h') : zz X E nL ad kc ks pc L (.int x :: .int i :: .ref (ad k) :: st) h :=
  zz_zast C 1 hd ((hR k).trans (he _ _)) rfl hi hj hn fun h' e f => kk h' (by rw [hx] at e; exact hR.put e f (he _ _))
theorem zz_lastR (C : zc X E cc nL own rm) (hR : zRep E ad al μ pa h) {k n j : Nat} {i : Int32} {x : Int64} (hd : decode cc pc = .ok (.lastore, 1)) (he : ∀ row rl, zb E ad al k row rl = some (.inl (E.2 2, n, .inr (.inl rl)))) (hi : i = nI j) (hj : j < n) (hn : n < 2 ^ 31) (kk : ∀ h' : zH, zRep E ad al μ (va_up pa k (vp_updL (pa k) j x)) h' → zz X E nL ad kc ks (pc + 1) L st h') : zz X E nL ad kc ks pc L (.long x :: .int i :: .ref (ad k) :: st) h :=
  zz_last C 2 hd ((hR k).trans (he _ _)) rfl hi hj hn fun h' e f => kk h' (hR.putL e f (he _ _))
theorem zz_ialdR (C : zc X E cc nL own rm) (hR : zRep E ad al μ pa h) {k n j : Nat} {i : Int32} (hd : decode cc pc = .ok (.iaload, 1)) (he : ∀ row rl, zb E ad al k row rl = some (.inl (E.2 0, n, .inl row))) (hi : i = nI j) (hj : j < n) (hn : n < 2 ^ 31) (kk : zz X E nL ad kc ks (pc + 1) L (.int (μ k j) :: st) h) : zz X E nL ad kc ks pc L (.int i :: .ref (ad k) :: st) h :=
  zz_iald C 0 hd ((hR k).trans (he _ _)) rfl hi hj hn kk
theorem zz_zaldR (C : zc X E cc nL own rm) (hR : zRep E ad al μ pa h) {k n j : Nat} {i : Int32} (hd : decode cc pc = .ok (.baload, 1)) (he : ∀ row rl, zb E ad al k row rl = some (.inl (E.2 1, n, .inl row))) (hi : i = nI j) (hj : j < n) (hn : n < 2 ^ 31) (kk : zz X E nL ad kc ks (pc + 1) L (.int (μ k j) :: st) h) : zz X E nL ad kc ks pc L (.int i :: .ref (ad k) :: st) h :=
  zz_zald C 1 hd ((hR k).trans (he _ _)) rfl hi hj hn kk
theorem zz_laldR (C : zc X E cc nL own rm) (hR : zRep E ad al μ pa h) {k n j : Nat} {i : Int32} (hd : decode cc pc = .ok (.laload, 1)) (he : ∀ row rl, zb E ad al k row rl = some (.inl (E.2 2, n, .inr (.inl rl)))) (hi : i = nI j) (hj : j < n) (hn : n < 2 ^ 31) (kk : zz X E nL ad kc ks (pc + 1) L (.long (pa k j) :: st) h) : zz X E nL ad kc ks pc L (.int i :: .ref (ad k) :: st) h :=
  zz_lald C 2 hd ((hR k).trans (he _ _)) rfl hi hj hn kk
theorem zz_ialdV (C : zc X E cc nL own rm) (hR : zRep E ad al μ pa h) {k n j : Nat} {i : Int32} (v : Int32) (hd : decode cc pc = .ok (.iaload, 1)) (he : ∀ row rl, zb E ad al k row rl = some (.inl (E.2 0, n, .inl row))) (hi : i = nI j) (hj : j < n) (hn : n < 2 ^ 31) (hv : μ k j = v) (kk : zz X E nL ad kc ks (pc + 1) L (.int v :: st) h) : zz X E nL ad kc ks pc L (.int i :: .ref (ad k) :: st) h :=
  zz_iald C 0 hd ((hR k).trans (he _ _)) rfl hi hj hn (by rw [hv]; exact kk)
theorem zz_zaldV (C : zc X E cc nL own rm) (hR : zRep E ad al μ pa h) {k n j : Nat} {i : Int32} (v : Int32) (hd : decode cc pc = .ok (.baload, 1)) (he : ∀ row rl, zb E ad al k row rl = some (.inl (E.2 1, n, .inl row))) (hi : i = nI j) (hj : j < n) (hn : n < 2 ^ 31) (hv : μ k j = v) (kk : zz X E nL ad kc ks (pc + 1) L (.int v :: st) h) : zz X E nL ad kc ks pc L (.int i :: .ref (ad k) :: st) h :=
  zz_zald C 1 hd ((hR k).trans (he _ _)) rfl hi hj hn (by rw [hv]; exact kk)
theorem zz_laldV (C : zc X E cc nL own rm) (hR : zRep E ad al μ pa h) {k n j : Nat} {i : Int32} (v : Int64) (hd : decode cc pc = .ok (.laload, 1)) (he : ∀ row rl, zb E ad al k row rl = some (.inl (E.2 2, n, .inr (.inl rl)))) (hi : i = nI j) (hj : j < n) (hn : n < 2 ^ 31) (hv : pa k j = v) (kk : zz X E nL ad kc ks (pc + 1) L (.long v :: st) h) : zz X E nL ad kc ks pc L (.int i :: .ref (ad k) :: st) h :=
  zz_lald C 2 hd ((hR k).trans (he _ _)) rfl hi hj hn (by rw [hv]; exact kk)
/-- an int field, its value given -/
theorem zz_getV (C : zc X E cc nL own rm) (hR : zRep E ad al μ pa h) {index ci j k : Nat} {fs : List Value} (v w : Int32) (hd : decode cc pc = .ok (.getfield index, 3)) (hf : zf own index ci j) (he : zb E ad al k (μ k) (pa k) = some (.inr (ci, fs))) (hv : fs[j]? = some (.int w)) (hw : w = v) (kk : zz X E nL ad kc ks (pc + 3) L (.int v :: st) h) : zz X E nL ad kc ks pc L (.ref (ad k) :: st) h :=
  zz_get C hd hf ((hR k).trans he) hv (by rw [hw]; exact kk)
/-- an element of an array of references -/
theorem zz_aaldR (C : zc X E cc nL own rm) (hR : zRep E ad al μ pa h) (t0 : Nat) {k n j q : Nat} {cA : ClassId} {ty : FieldType} {i : Int32} {f : Nat → Option Nat} (hd : decode cc pc = .ok (.aaload, 1)) (he : ∀ row rl, zb E ad al k row rl = some (.inl (cA, n, .inr (.inr (.inr (.inr f)))))) (ht : (zT E)[t0]? = some (cA, ty)) (hty : ty.isReference = true) (hi : i = nI j) (hj : j < n) (hn : n < 2 ^ 31) (hq : f j = some (ad q)) (kk : zz X E nL ad kc ks (pc + 1) L (.ref (ad q) :: st) h) : zz X E nL ad kc ks pc L (.int i :: .ref (ad k) :: st) h :=
  zz_aald C t0 hd ((hR k).trans (he _ _)) ht hty hi hj hn (by rw [hq]; rfl) kk
/-- a row of the factors -/
theorem zz_rowR (C : zc X E cc nL own rm) (hR : zRep E ad al μ pa h) {r : Nat} {i : Int32} (hd : decode cc pc = .ok (.aaload, 1)) (hi : i = nI r) (hr : r < 16) (kk : zz X E nL ad kc ks (pc + 1) L (.ref (ad (24 + r)) :: st) h) : zz X E nL ad kc ks pc L (.int i :: .ref (ad 8) :: st) h :=
  zz_aaldR C hR 4 (k := 8) (n := 16) (j := r) (q := 24 + r) hd (fun _ _ => rfl) rfl rfl hi hr (by decide) (if_pos hr) kk
end ZM
/-- a contract over rows: from av and the rows the method ends with an answer, addresses, nodes, rows -/
def qMet (l : Launch) (y : MethodName) (b : ByteArray) (nL : Nat) (ret : Option FieldType) (rm : Room) (E : zE) (av : List Value) (ad : Nat → Nat) (al : Nat) (μ : Nat → Nat → Int32) (pa : Nat → Nat → Int64) (post : Option Value → (Nat → Nat) → Nat → (Nat → Nat → Int32) → (Nat → Nat → Int64) → Prop) : Prop :=
  ∀ h : zH, zRep E ad al μ pa h → zMet l y b nL ret rm E av ad h (fun r ad' h' => ∃ (al' : Nat) (μ' : Nat → Nat → Int32) (pa' : Nat → Nat → Int64), zRep E ad' al' μ' pa' h' ∧ post r ad' al' μ' pa')
/-- one that leaves all as it is -/
def rMet (l : Launch) (y : MethodName) (b : ByteArray) (nL : Nat) (ret : Option FieldType) (rm : Room) (E : zE) (av : List Value) (ad : Nat → Nat) (al : Nat) (μ : Nat → Nat → Int32) (pa : Nat → Nat → Int64) (r : Value) : Prop :=
  ∀ h : zH, zRep E ad al μ pa h → zMet l y b nL ret rm E av ad h (fun r' ad' h' => r' = some r ∧ ad' = ad ∧ h' = h)
/-- one that changes rows alone -/
def wMet (l : Launch) (y : MethodName) (b : ByteArray) (nL : Nat) (ret : Option FieldType) (rm : Room) (E : zE) (av : List Value) (ad : Nat → Nat) (al : Nat) (μ : Nat → Nat → Int32) (pa : Nat → Nat → Int64) (r : Option Value) (μ' : Nat → Nat → Int32) (pa' : Nat → Nat → Int64) : Prop :=
  ∀ h : zH, zRep E ad al μ pa h → zMet l y b nL ret rm E av ad h (fun r' ad' h' => r' = r ∧ ad' = ad ∧ zRep E ad al μ' pa' h')

