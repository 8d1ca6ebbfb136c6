/-! THE PURE HEAP: keys (Nat) and their cells; ad gives a key's address. zz: the machine at a pc, with locals, stack and a pure heap, goes to the contract's end. -/
abbrev zH : Type := List (Nat × va_E)
def zg : zH → Nat → Option va_E
  | [], _ => none
  | q :: t, j => if j = q.1 then some q.2 else zg t j
def zw (ad : Nat → Nat) (h : zH) : va_W := h.map (fun q => (ad q.1, q.2))
/-- where a key stands, and what a write there does -/
theorem zg_at : ∀ {h : zH} {k : Nat} {x : va_E}, zg h k = some x → ∃ i : Nat, h[i]? = some (k, x) ∧ (∀ y : va_E, zg (h.set i (k, y)) k = some y) ∧ ∀ (y : va_E) (j : Nat), j ≠ k → zg (h.set i (k, y)) j = zg h j
  | [], k, x, hk => by simp [zg] at hk
  | q :: t, k, x, hk => by
    by_cases e : k = q.1
    · subst e
      have hx : q.2 = x := by simpa [zg] using hk
      refine ⟨0, by rw [← hx]; rfl, fun y => by simp [zg], fun y j hj => by simp [zg, hj]⟩
    · have hk' : zg t k = some x := by simpa [zg, e] using hk
      obtain ⟨i, h1, h2, h3⟩ := zg_at hk'
      refine ⟨i + 1, by simpa using h1, fun y => by simpa [zg, e] using h2 y, fun y j hj => ?_⟩
      by_cases e2 : j = q.1
      · simp [zg, e2]
      · simpa [zg, e2] using h3 y j hj
theorem zw_at {ad : Nat → Nat} {h : zH} {i k : Nat} {x : va_E} (hi : h[i]? = some (k, x)) : (zw ad h)[i]? = some (ad k, x) := by
  unfold zw
  rw [List.getElem?_map, hi]
  rfl
theorem zw_set (ad : Nat → Nat) (h : zH) (i k : Nat) (x : va_E) : (zw ad h).set i (ad k, x) = zw ad (h.set i (k, x)) := by
  unfold zw
  rw [List.map_set]
theorem zw_get {ad : Nat → Nat} {h : zH} {i : Nat} {q : Nat × va_E} (hq : (zw ad h)[i]? = some q) : ∃ k : Nat, h[i]? = some (k, q.2) ∧ ad k = q.1 := by
  unfold zw at hq
  rw [List.getElem?_map] at hq
  cases hh : h[i]? with
  | none => rw [hh] at hq; cases hq
  | some y =>
    rw [hh] at hq
    cases hq
    exact ⟨y.1, rfl, rfl⟩
/-- the classes' numbers and slots; the array classes: int, boolean, long, Node, int[] -/
abbrev zE : Type := va_G × (Nat → ClassId)
def zT (E : zE) : List (ClassId × FieldType) := [(E.2 0, .int), (E.2 1, .boolean), (E.2 2, .long), (E.2 3, .object "BranchTrees$Node"), (E.2 4, .array .int)]
/-- what the tables say, besides words that stay -/
def zK (E : zE) (U : State) : Prop := va_K E.1 zCl (zT E) U ∧ ∀ q ∈ zn, va_Nw (.methodLinkNest q.1 q.2.1 q.2.2.1 q.2.2.2) U
theorem zK.warm {E : zE} {s U : State} (hW : s.WarmedH U.vm) (h : zK E s) : zK E U := ⟨va_K.moved hW.alike h.1, fun q hq => va_Nw.warmM hW (h.2 q hq)⟩
theorem z_in {ws : List Cond} (h : ∀ w ∈ ws, w ∈ zt) : GoodIn zt ws := fun w hw => ⟨h w hw, good_of_word (List.mem_filter.mp (h w hw)).2⟩
/-- what a method leaves: an answer, a pure heap, and that nothing else changed -/
def zQc (E : zE) (A : Nat → Prop) (post : Option Value → (Nat → Nat) → zH → Prop) : Array Value → State → Outcome → State → Prop := fun _ st oc t =>
  (∃ (r : Option Value) (ad' : Nat → Nat) (h' : zH), oc = .returned r ∧ post r ad' h' ∧ va_P E.1 zCl (zw ad' h') t.heap ∧ va_D A (zw ad' h')) ∧ va_F A st t
def zPre (E : zE) (ad : Nat → Nat) (h : zH) (sz : Nat) (U : State) : Prop := U.heap.size = sz ∧ va_P E.1 zCl (zw ad h) U.heap ∧ zK E U ∧ va_D (fun _ => True) (zw ad h)
/-- A CONTRACT: from args av and pure heap h the method y ends with post -/
def zMet (l : Launch) (y : MethodName) (b : ByteArray) (nL : Nat) (ret : Option FieldType) (rm : Room) (E : zE) (av : List Value) (ad : Nat → Nat) (h : zH) (post : Option Value → (Nat → Nat) → zH → Prop) : Prop :=
  ∀ sz : Nat, Met l y (Cond.code y b nL ret :: zt) rm (va_Pc av (zPre E ad h sz)) (zQc E (va_A (zw ad h) sz) post) rm.cells rm.slots (va_A (zw ad h) sz)
/-- a room of d frames -/
def zR (d : Nat) : Room := { frames := d, cells := 0, slots := 0, locals := 40 * d }
theorem nI_inc (i : Nat) : nI i + Int32.ofInt 1 = nI (i + 1) := nI_1 i
/-! the locals by their places: L[i]? = some (some v) where slot i holds v -/
def zL (ls : Array Slot) (nL : Nat) (L : List (Option Value)) : Prop := ls.size = nL ∧ lv_wf ls ∧ ∀ (j : Nat) (w : Value), L[j]? = some (some w) → ls[j]? = some (.val w)
def zl (L : List (Option Value)) : List (Nat × Value) := (List.range L.length).filterMap (fun j => (L[j]?).join.map (fun w => (j, w)))
theorem zl_mem {L : List (Option Value)} {j : Nat} {w : Value} : (j, w) ∈ zl L ↔ L[j]? = some (some w) := by
  unfold zl
  rw [List.mem_filterMap]
  constructor
  · rintro ⟨i, -, hi⟩
    cases hL : L[i]? with
    | none => rw [hL] at hi; simp at hi
    | some o =>
      cases o with
      | none => rw [hL] at hi; simp at hi
      | some v =>
        rw [hL] at hi
        simp at hi
        obtain ⟨rfl, rfl⟩ := hi
        exact hL
  · intro hL
    refine ⟨j, List.mem_range.mpr ?_, by rw [hL]; rfl⟩
    rcases Nat.lt_or_ge j L.length with q | q
    · exact q
    · rw [List.getElem?_eq_none q] at hL; cases hL
theorem zL.has {ls : Array Slot} {nL : Nat} {L : List (Option Value)} (hL : zL ls nL L) : lv_has ls nL (zl L) := ⟨hL.1, hL.2.1, fun q hq => hL.2.2 q.1 q.2 (zl_mem.mp hq)⟩
theorem zL.of {ls : Array Slot} {nL : Nat} {l : List (Nat × Value)} (hl : lv_has ls nL l) {L : List (Option Value)} (hs : ∀ (j : Nat) (w : Value), L[j]? = some (some w) → (j, w) ∈ l) : zL ls nL L := ⟨hl.1, hl.2.1, fun j w h => hl.2.2 (j, w) (hs j w h)⟩
/-- the place ahead of i holds no long -/
def zk1 (L : List (Option Value)) : Nat → Bool
  | 0 => true
  | i + 1 => match L[i]? with
    | some (some v) => v.category == 1
    | _ => true
theorem zk1_spec {L : List (Option Value)} {i j : Nat} {w : Value} (hk : zk1 L i = true) (hj : L[j]? = some (some w)) (e : j + 1 = i) : w.category ≠ 2 := by
  subst e
  simp only [zk1, hj, beq_iff_eq] at hk
  omega
theorem zL.set1 {ls : Array Slot} {nL i : Nat} {L : List (Option Value)} {v : Value} (hk : zk1 L i = true) (h : lv_has ls nL ((i, v) :: (zl L).filter (fun q => !(q.1 == i) && !(q.1 + 1 == i && q.2.category == 2)))) : zL ls nL (L.set i (some v)) := by
  refine zL.of h fun j w hj => ?_
  by_cases e : j = i
  · subst e
    rcases Nat.lt_or_ge j L.length with q | q
    · rw [List.getElem?_set_self q] at hj
      cases hj
      exact List.mem_cons_self
    · rw [List.getElem?_eq_none (by rw [List.length_set]; exact q)] at hj; cases hj
  · rw [List.getElem?_set_ne (Ne.symm e)] at hj
    refine List.mem_cons_of_mem _ (List.mem_filter.mpr ⟨zl_mem.mpr hj, ?_⟩)
    have h2 : j + 1 = i → ¬ w.category = 2 := fun q => zk1_spec hk hj q
    simp only [Bool.and_eq_true, Bool.not_eq_true', beq_eq_false_iff_ne, ne_eq, Bool.and_eq_false_iff]
    refine ⟨e, ?_⟩
    by_cases q : j + 1 = i
    · exact Or.inr (h2 q)
    · exact Or.inl q
theorem zL.set2 {ls : Array Slot} {nL i : Nat} {L : List (Option Value)} {v : Value} (hk : zk1 L i = true) (h : lv_has ls nL ((i, v) :: (zl L).filter (fun q => !(q.1 == i) && (!(q.1 == i + 1) && !(q.1 + 1 == i && q.2.category == 2))))) : zL ls nL ((L.set i (some v)).set (i + 1) none) := by
  refine zL.of h fun j w hj => ?_
  by_cases e1 : j = i + 1
  · subst e1
    rcases Nat.lt_or_ge (i + 1) L.length with q | q
    · rw [List.getElem?_set_self (by rw [List.length_set]; exact q)] at hj
      cases hj
    · rw [List.getElem?_eq_none (by rw [List.length_set, List.length_set]; exact q)] at hj; cases hj
  rw [List.getElem?_set_ne (Ne.symm e1)] at hj
  by_cases e : j = i
  · subst e
    rcases Nat.lt_or_ge j L.length with q | q
    · rw [List.getElem?_set_self q] at hj
      cases hj
      exact List.mem_cons_self
    · rw [List.getElem?_eq_none (by rw [List.length_set]; exact q)] at hj; cases hj
  · rw [List.getElem?_set_ne (Ne.symm e)] at hj
    refine List.mem_cons_of_mem _ (List.mem_filter.mpr ⟨zl_mem.mpr hj, ?_⟩)
    have h2 : j + 1 = i → ¬ w.category = 2 := fun q => zk1_spec hk hj q
    simp only [Bool.and_eq_true, Bool.not_eq_true', beq_eq_false_iff_ne, ne_eq, Bool.and_eq_false_iff]
    refine ⟨e, e1, ?_⟩
    by_cases q : j + 1 = i
    · exact Or.inr (h2 q)
    · exact Or.inl q
/-- the entry's locals: arguments of one slot each -/
theorem zav_mem : ∀ (vs : List Value) (b j : Nat) (w : Value), vs.all (fun v => v.category == 1) = true → (vs.map some)[j]? = some (some w) → (b + j, w) ∈ lv_args b vs
  | [], b, j, w, _, h => by simp at h
  | v :: vs, b, 0, w, _, h => by
    have e : v = w := by simpa using h
    subst e
    exact List.mem_cons_self
  | v :: vs, b, j + 1, w, ha, h => by
    simp only [List.all_cons, Bool.and_eq_true, beq_iff_eq] at ha
    have hc : ¬ v.category = 2 := by omega
    have := zav_mem vs (b + 1) j w ha.2 (by simpa using h)
    unfold lv_args
    rw [if_neg hc]
    refine List.mem_cons_of_mem _ ?_
    rw [show b + (j + 1) = b + 1 + j by omega]
    exact this
theorem zav_ok {vs : List Value} {n : Nat} (ha : vs.all (fun v => v.category == 1) = true) {j : Nat} {w : Value} (h : (vs.map some ++ List.replicate n none)[j]? = some (some w)) : (j, w) ∈ lv_args 0 vs := by
  have h2 : (vs.map some)[j]? = some (some w) := by
    rcases Nat.lt_or_ge j (vs.map some).length with q | q
    · rw [List.getElem?_append_left q] at h; exact h
    · rw [List.getElem?_append_right q, List.getElem?_replicate] at h
      split at h <;> simp at h
  have := zav_mem vs 0 j w ha h2
  rwa [Nat.zero_add] at this
/-- a walk's fixed things: program, launch, env, room, start state, method id, args, frames below, method, code, goal, which addresses may change -/
abbrev zX : Type := Program × Launch × Env × Room × State × MethodId × Array Value × List Frame × Method × Code × (State → Prop) × (Nat → Prop)
def zz (X : zX) (E : zE) (nL : Nat) (ad : Nat → Nat) (kc ks pc : Nat) (L : List (Option Value)) (st : List Value) (h : zH) : Prop :=
  match X with
  | (p, l, e, R, s, m, args, below, meth, c, Q, A) => ∀ (H : Heap) (locs : List Loc) (ls : Array Slot), va_P E.1 zCl (zw ad h) H → va_D A (zw ad h) → va_S A s.heap H locs → zL ls nL L → W p l e R s m args below meth c H locs kc ks Q (F0 m pc ls st)
/-- the context of a walk -/
def zc (X : zX) (E : zE) (cc : ByteArray) (nL : Nat) (own : String) (rm : Room) : Prop :=
  match X with
  | (p, l, e, R, s, m, args, below, meth, c, Q, A) => CallFix p m c cc nL s args zt own ∧ zK E s ∧ (∀ q, s.heap.size ≤ q → A q) ∧ R = rm
/-- its end -/
def zr (X : zX) (E : zE) (ret : Option FieldType) (mc ms : Nat) (post : Option Value → (Nat → Nat) → zH → Prop) : Prop :=
  match X with
  | (p, l, e, R, s, m, args, below, meth, c, Q, A) => meth.sig.returnType = ret ∧ meth.locks = false ∧ Q = MQ below (zQc E A post) args s mc ms A
/-- a walk of the body is a contract, also where the class bears rows of its own (Math) but not for this method -/
theorem zOfW {l : Launch} {y : MethodName} {ws ws' : List Cond} {rm : Room} {Pc : Array Value → State → Prop} {Qc : Array Value → State → Outcome → State → Prop} {mc ms : Nat} {free : Addr → Prop} {cc : ByteArray} {maxL : Nat} {ret : Option FieldType}
    (hy : plainFor y = true) (hw : ws = Cond.code y cc maxL ret :: ws')
    (body : ∀ p e s m args below meth c s₁, BodyLoose p l y (headSpec ws rm) cc maxL ret e s m args below meth c s₁ → c.maxLocals = maxL → Pc args s →
      W p l e (headSpec ws rm).room s m args below meth c s.heap [] 0 0 (MQ below Qc args s mc ms free) (entryFrame m args maxL)) : Met l y ws rm Pc Qc mc ms free := by
  refine MetFree.of_bodySF (code := cc) (maxLocals := maxL) (ret := ret) hy (fun args s m h hn => ?_) (fun p e s m args below meth c s₁ B hml hP _ => ?_)
  · have hm : Cond.code y cc maxL ret ∈ ws := hw ▸ List.mem_cons_self
    obtain ⟨meth, c, h1, h2, h3, h4, h5, h6, -, -⟩ := Cond.code_spec hn (atoms_spec (ws := ws) h _ hm)
    exact ⟨meth, c, h1, h2, h3, h4, h5, h6⟩
  · have hh : s₁.heap = s.heap := by rw [B.state]; rfl
    obtain ⟨t, g1, o, g2, g3, g4, g5⟩ := body p e s m args below meth c s₁ B hml hP s₁ hh (Stand.of_body B)
    exact ⟨t, o, g1, g2, g3, g4, g5⟩
/-- a contract out of a walk -/
theorem zMet.of {l : Launch} {y : MethodName} {rm : Room} {E : zE} {av : List Value} {ad : Nat → Nat} {h : zH} {post : Option Value → (Nat → Nat) → zH → Prop} {cc : ByteArray} {nL : Nat} {ret : Option FieldType} {L : List (Option Value)}
    (hy : plainFor y = true) (hn : (lg_sl av).length ≤ nL) (hcat : av.all (fun v => v.category == 1) = true) (n : Nat) (hL : av.map some ++ List.replicate n none = L)
    (body : ∀ X : zX, X.2.1 = l → zc X E cc nL y.cls rm → zr X E ret rm.cells rm.slots post → zz X E nL ad 0 0 0 L [] h) : zMet l y cc nL ret rm E av ad h post := by
  intro sz
  refine zOfW (cc := cc) (maxL := nL) (ret := ret) hy rfl ?_
  intro p e s m args below meth c s₁ B hml hv
  obtain ⟨rfl, hsz, hP, hK, hD⟩ := hv
  subst hsz
  subst hL
  have hts0 := atoms_spec (ws := Cond.code y cc nL ret :: zt) B.pre
  have hts : ∀ w ∈ zt, w.before av.toArray s = true := fun w hw => hts0 w (List.mem_cons_of_mem _ hw)
  have hl := lv_entry av (n := nL) hn
  rw [lg_entry_eq]
  have K := body (p, l, e, (headSpec (Cond.code y cc nL ret :: zt) rm).room, s, m, av.toArray, below, meth, c, MQ below (zQc E (va_A (zw ad h) s.heap.size) post) av.toArray s rm.cells rm.slots (va_A (zw ad h) s.heap.size), va_A (zw ad h) s.heap.size) rfl
    ⟨⟨B.exec, B.bytes, hml, findClass_of_methodNamed B.named, hts⟩, hK, fun q hq => Or.inr hq, rfl⟩ ⟨B.returns, B.notSynchronized, rfl⟩
  exact K s.heap [] _ hP hD.self va_S.rf (zL.of hl fun j w h => zav_ok hcat h)
section ZZ
variable {X : zX} {E : zE} {cc : ByteArray} {nL : Nat} {own : String} {rm : Room} {ad : Nat → Nat} {kc ks pc : Nat} {L : List (Option Value)} {st : List Value} {h : zH}
theorem zz_iconst (C : zc X E cc nL own rm) {n : Int} {v : Int32} (hd : decode cc pc = .ok (.iconst n, 1)) (hv : Int32.ofInt n = v) (k : zz X E nL ad kc ks (pc + 1) L (.int v :: st) h) : zz X E nL ad kc ks pc L (st) h := by
  obtain ⟨p, l, e, R, s, m, args, below, meth, c, Q, A⟩ := X
  exact fun H locs ls a1 a2 a3 a5 => lv_iconst C.1.1 C.1.2.1 hd hv (k H locs ls a1 a2 a3 a5)
theorem zz_bipush (C : zc X E cc nL own rm) {n : Int} {v : Int32} (hd : decode cc pc = .ok (.bipush n, 2)) (hv : (Int8.ofInt n).toInt32 = v) (k : zz X E nL ad kc ks (pc + 2) L (.int v :: st) h) : zz X E nL ad kc ks pc L (st) h := by
  obtain ⟨p, l, e, R, s, m, args, below, meth, c, Q, A⟩ := X
  exact fun H locs ls a1 a2 a3 a5 => lv_bipush C.1.1 C.1.2.1 hd hv (k H locs ls a1 a2 a3 a5)
theorem zz_sipush (C : zc X E cc nL own rm) {n : Int} {v : Int32} (hd : decode cc pc = .ok (.sipush n, 3)) (hv : (Int16.ofInt n).toInt32 = v) (k : zz X E nL ad kc ks (pc + 3) L (.int v :: st) h) : zz X E nL ad kc ks pc L (st) h := by
  obtain ⟨p, l, e, R, s, m, args, below, meth, c, Q, A⟩ := X
  exact fun H locs ls a1 a2 a3 a5 => lv_sipush C.1.1 C.1.2.1 hd hv (k H locs ls a1 a2 a3 a5)
theorem zz_lconst (C : zc X E cc nL own rm) {n : Fin 2} {v : Int64} (hd : decode cc pc = .ok (.lconst n, 1)) (hv : Int64.ofNat (n : Nat) = v) (k : zz X E nL ad kc ks (pc + 1) L (.long v :: st) h) : zz X E nL ad kc ks pc L (st) h := by
  obtain ⟨p, l, e, R, s, m, args, below, meth, c, Q, A⟩ := X
  exact fun H locs ls a1 a2 a3 a5 => lv_lconst C.1.1 C.1.2.1 hd hv (k H locs ls a1 a2 a3 a5)
theorem zz_iload_n (C : zc X E cc nL own rm) {j : Fin 4} {i : Nat} {x : Int32} (hd : decode cc pc = .ok (.iload_n j, 1)) (hi : (j : Nat) = i) (hl : L[i]? = some (some (.int x))) (k : zz X E nL ad kc ks (pc + 1) L (.int x :: st) h) : zz X E nL ad kc ks pc L (st) h := by
  obtain ⟨p, l, e, R, s, m, args, below, meth, c, Q, A⟩ := X
  exact fun H locs ls a1 a2 a3 a5 => lv_iload_n C.1.1 C.1.2.1 hd hi (a5.2.2 i _ hl) (k H locs ls a1 a2 a3 a5)
theorem zz_iload (C : zc X E cc nL own rm) {i : Nat} {x : Int32} (hd : decode cc pc = .ok (.iload i, 2)) (hl : L[i]? = some (some (.int x))) (k : zz X E nL ad kc ks (pc + 2) L (.int x :: st) h) : zz X E nL ad kc ks pc L (st) h := by
  obtain ⟨p, l, e, R, s, m, args, below, meth, c, Q, A⟩ := X
  exact fun H locs ls a1 a2 a3 a5 => lv_iload C.1.1 C.1.2.1 hd (a5.2.2 i _ hl) (k H locs ls a1 a2 a3 a5)
theorem zz_lload_n (C : zc X E cc nL own rm) {j : Fin 4} {i : Nat} {x : Int64} (hd : decode cc pc = .ok (.lload_n j, 1)) (hi : (j : Nat) = i) (hl : L[i]? = some (some (.long x))) (k : zz X E nL ad kc ks (pc + 1) L (.long x :: st) h) : zz X E nL ad kc ks pc L (st) h := by
  obtain ⟨p, l, e, R, s, m, args, below, meth, c, Q, A⟩ := X
  exact fun H locs ls a1 a2 a3 a5 => lv_lload_n C.1.1 C.1.2.1 hd hi (a5.2.2 i _ hl) (k H locs ls a1 a2 a3 a5)
theorem zz_lload (C : zc X E cc nL own rm) {i : Nat} {x : Int64} (hd : decode cc pc = .ok (.lload i, 2)) (hl : L[i]? = some (some (.long x))) (k : zz X E nL ad kc ks (pc + 2) L (.long x :: st) h) : zz X E nL ad kc ks pc L (st) h := by
  obtain ⟨p, l, e, R, s, m, args, below, meth, c, Q, A⟩ := X
  exact fun H locs ls a1 a2 a3 a5 => lv_lload C.1.1 C.1.2.1 hd (a5.2.2 i _ hl) (k H locs ls a1 a2 a3 a5)
theorem zz_aload_n (C : zc X E cc nL own rm) {j : Fin 4} {i : Nat} {x : Nat} (hd : decode cc pc = .ok (.aload_n j, 1)) (hi : (j : Nat) = i) (hl : L[i]? = some (some (.ref x))) (k : zz X E nL ad kc ks (pc + 1) L (.ref x :: st) h) : zz X E nL ad kc ks pc L (st) h := by
  obtain ⟨p, l, e, R, s, m, args, below, meth, c, Q, A⟩ := X
  exact fun H locs ls a1 a2 a3 a5 => lv_aload_n C.1.1 C.1.2.1 hd hi (a5.2.2 i _ hl) (k H locs ls a1 a2 a3 a5)
theorem zz_aload (C : zc X E cc nL own rm) {i : Nat} {x : Nat} (hd : decode cc pc = .ok (.aload i, 2)) (hl : L[i]? = some (some (.ref x))) (k : zz X E nL ad kc ks (pc + 2) L (.ref x :: st) h) : zz X E nL ad kc ks pc L (st) h := by
  obtain ⟨p, l, e, R, s, m, args, below, meth, c, Q, A⟩ := X
  exact fun H locs ls a1 a2 a3 a5 => lv_aload C.1.1 C.1.2.1 hd (a5.2.2 i _ hl) (k H locs ls a1 a2 a3 a5)
theorem zz_istore_n (C : zc X E cc nL own rm) {j : Fin 4} {i : Nat} {x : Int32} (hd : decode cc pc = .ok (.istore_n j, 1)) (hi : (j : Nat) = i) (hn : i < nL) (hk : zk1 L i = true) (k : zz X E nL ad kc ks (pc + 1) (L.set i (some (.int x))) (st) h) : zz X E nL ad kc ks pc L (.int x :: st) h := by
  obtain ⟨p, l, e, R, s, m, args, below, meth, c, Q, A⟩ := X
  exact fun H locs ls a1 a2 a3 a5 => lv_istore_n C.1.1 C.1.2.1 hd hi a5.has hn rfl (fun ls' a6 => k H locs ls' a1 a2 a3 (zL.set1 hk a6))
theorem zz_istore (C : zc X E cc nL own rm) {i : Nat} {x : Int32} (hd : decode cc pc = .ok (.istore i, 2)) (hn : i < nL) (hk : zk1 L i = true) (k : zz X E nL ad kc ks (pc + 2) (L.set i (some (.int x))) (st) h) : zz X E nL ad kc ks pc L (.int x :: st) h := by
  obtain ⟨p, l, e, R, s, m, args, below, meth, c, Q, A⟩ := X
  exact fun H locs ls a1 a2 a3 a5 => lv_istore C.1.1 C.1.2.1 hd a5.has hn rfl (fun ls' a6 => k H locs ls' a1 a2 a3 (zL.set1 hk a6))
theorem zz_astore_n (C : zc X E cc nL own rm) {j : Fin 4} {i : Nat} {x : Nat} (hd : decode cc pc = .ok (.astore_n j, 1)) (hi : (j : Nat) = i) (hn : i < nL) (hk : zk1 L i = true) (k : zz X E nL ad kc ks (pc + 1) (L.set i (some (.ref x))) (st) h) : zz X E nL ad kc ks pc L (.ref x :: st) h := by
  obtain ⟨p, l, e, R, s, m, args, below, meth, c, Q, A⟩ := X
  exact fun H locs ls a1 a2 a3 a5 => lv_astore_n C.1.1 C.1.2.1 hd hi a5.has hn rfl (fun ls' a6 => k H locs ls' a1 a2 a3 (zL.set1 hk a6))
theorem zz_astore (C : zc X E cc nL own rm) {i : Nat} {x : Nat} (hd : decode cc pc = .ok (.astore i, 2)) (hn : i < nL) (hk : zk1 L i = true) (k : zz X E nL ad kc ks (pc + 2) (L.set i (some (.ref x))) (st) h) : zz X E nL ad kc ks pc L (.ref x :: st) h := by
  obtain ⟨p, l, e, R, s, m, args, below, meth, c, Q, A⟩ := X
  exact fun H locs ls a1 a2 a3 a5 => lv_astore C.1.1 C.1.2.1 hd a5.has hn rfl (fun ls' a6 => k H locs ls' a1 a2 a3 (zL.set1 hk a6))
theorem zz_lstore_n (C : zc X E cc nL own rm) {j : Fin 4} {i : Nat} {x : Int64} (hd : decode cc pc = .ok (.lstore_n j, 1)) (hi : (j : Nat) = i) (hn : i + 1 < nL) (hk : zk1 L i = true) (k : zz X E nL ad kc ks (pc + 1) ((L.set i (some (.long x))).set (i + 1) none) (st) h) : zz X E nL ad kc ks pc L (.long x :: st) h := by
  obtain ⟨p, l, e, R, s, m, args, below, meth, c, Q, A⟩ := X
  exact fun H locs ls a1 a2 a3 a5 => lv_lstore_n C.1.1 C.1.2.1 hd hi a5.has hn rfl (fun ls' a6 => k H locs ls' a1 a2 a3 (zL.set2 hk a6))
theorem zz_lstore (C : zc X E cc nL own rm) {i : Nat} {x : Int64} (hd : decode cc pc = .ok (.lstore i, 2)) (hn : i + 1 < nL) (hk : zk1 L i = true) (k : zz X E nL ad kc ks (pc + 2) ((L.set i (some (.long x))).set (i + 1) none) (st) h) : zz X E nL ad kc ks pc L (.long x :: st) h := by
  obtain ⟨p, l, e, R, s, m, args, below, meth, c, Q, A⟩ := X
  exact fun H locs ls a1 a2 a3 a5 => lv_lstore C.1.1 C.1.2.1 hd a5.has hn rfl (fun ls' a6 => k H locs ls' a1 a2 a3 (zL.set2 hk a6))
theorem zz_iinc (C : zc X E cc nL own rm) {i : Nat} {n : Int} {x v : Int32} (hd : decode cc pc = .ok (.iinc i n, 3)) (hl : L[i]? = some (some (.int x))) (hv : x + Int32.ofInt n = v) (hn : i < nL) (hk : zk1 L i = true) (k : zz X E nL ad kc ks (pc + 3) (L.set i (some (.int v))) (st) h) : zz X E nL ad kc ks pc L (st) h := by
  obtain ⟨p, l, e, R, s, m, args, below, meth, c, Q, A⟩ := X
  exact fun H locs ls a1 a2 a3 a5 => (by
    obtain ⟨q, hq⟩ := List.getElem?_of_mem (zl_mem.mpr hl)
    exact lv_iinc C.1.1 C.1.2.1 hd a5.has (k := q) hq hv hn rfl (fun ls' a6 => k H locs ls' a1 a2 a3 (zL.set1 hk a6)))
theorem zz_iadd (C : zc X E cc nL own rm) {x y : Int32} (hd : decode cc pc = .ok (.iadd, 1)) (k : zz X E nL ad kc ks (pc + 1) L (.int (x + y) :: st) h) : zz X E nL ad kc ks pc L (.int y :: .int x :: st) h := by
  obtain ⟨p, l, e, R, s, m, args, below, meth, c, Q, A⟩ := X
  exact fun H locs ls a1 a2 a3 a5 => lv_iadd C.1.1 C.1.2.1 hd (k H locs ls a1 a2 a3 a5)
theorem zz_isub (C : zc X E cc nL own rm) {x y : Int32} (hd : decode cc pc = .ok (.isub, 1)) (k : zz X E nL ad kc ks (pc + 1) L (.int (x - y) :: st) h) : zz X E nL ad kc ks pc L (.int y :: .int x :: st) h := by
  obtain ⟨p, l, e, R, s, m, args, below, meth, c, Q, A⟩ := X
  exact fun H locs ls a1 a2 a3 a5 => lv_isub C.1.1 C.1.2.1 hd (k H locs ls a1 a2 a3 a5)
theorem zz_imul (C : zc X E cc nL own rm) {x y : Int32} (hd : decode cc pc = .ok (.imul, 1)) (k : zz X E nL ad kc ks (pc + 1) L (.int (x * y) :: st) h) : zz X E nL ad kc ks pc L (.int y :: .int x :: st) h := by
  obtain ⟨p, l, e, R, s, m, args, below, meth, c, Q, A⟩ := X
  exact fun H locs ls a1 a2 a3 a5 => lv_imul C.1.1 C.1.2.1 hd (k H locs ls a1 a2 a3 a5)
theorem zz_iand (C : zc X E cc nL own rm) {x y : Int32} (hd : decode cc pc = .ok (.iand, 1)) (k : zz X E nL ad kc ks (pc + 1) L (.int (x &&& y) :: st) h) : zz X E nL ad kc ks pc L (.int y :: .int x :: st) h := by
  obtain ⟨p, l, e, R, s, m, args, below, meth, c, Q, A⟩ := X
  exact fun H locs ls a1 a2 a3 a5 => lv_iand C.1.1 C.1.2.1 hd (k H locs ls a1 a2 a3 a5)
theorem zz_ior (C : zc X E cc nL own rm) {x y : Int32} (hd : decode cc pc = .ok (.ior, 1)) (k : zz X E nL ad kc ks (pc + 1) L (.int (x ||| y) :: st) h) : zz X E nL ad kc ks pc L (.int y :: .int x :: st) h := by
  obtain ⟨p, l, e, R, s, m, args, below, meth, c, Q, A⟩ := X
  exact fun H locs ls a1 a2 a3 a5 => lv_ior C.1.1 C.1.2.1 hd (k H locs ls a1 a2 a3 a5)
theorem zz_ixor (C : zc X E cc nL own rm) {x y : Int32} (hd : decode cc pc = .ok (.ixor, 1)) (k : zz X E nL ad kc ks (pc + 1) L (.int (x ^^^ y) :: st) h) : zz X E nL ad kc ks pc L (.int y :: .int x :: st) h := by
  obtain ⟨p, l, e, R, s, m, args, below, meth, c, Q, A⟩ := X
  exact fun H locs ls a1 a2 a3 a5 => lv_ixor C.1.1 C.1.2.1 hd (k H locs ls a1 a2 a3 a5)
theorem zz_idiv (C : zc X E cc nL own rm) {x y : Int32} (hd : decode cc pc = .ok (.idiv, 1)) (hne : ¬ y = 0) (k : zz X E nL ad kc ks (pc + 1) L (.int (x / y) :: st) h) : zz X E nL ad kc ks pc L (.int y :: .int x :: st) h := by
  obtain ⟨p, l, e, R, s, m, args, below, meth, c, Q, A⟩ := X
  exact fun H locs ls a1 a2 a3 a5 => lv_idiv C.1.1 C.1.2.1 hd hne (k H locs ls a1 a2 a3 a5)
theorem zz_irem (C : zc X E cc nL own rm) {x y : Int32} (hd : decode cc pc = .ok (.irem, 1)) (hne : ¬ y = 0) (k : zz X E nL ad kc ks (pc + 1) L (.int (x - x / y * y) :: st) h) : zz X E nL ad kc ks pc L (.int y :: .int x :: st) h := by
  obtain ⟨p, l, e, R, s, m, args, below, meth, c, Q, A⟩ := X
  exact fun H locs ls a1 a2 a3 a5 => lv_irem C.1.1 C.1.2.1 hd hne (k H locs ls a1 a2 a3 a5)
theorem zz_ineg (C : zc X E cc nL own rm) {x : Int32} (hd : decode cc pc = .ok (.ineg, 1)) (k : zz X E nL ad kc ks (pc + 1) L (.int (-x) :: st) h) : zz X E nL ad kc ks pc L (.int x :: st) h := by
  obtain ⟨p, l, e, R, s, m, args, below, meth, c, Q, A⟩ := X
  exact fun H locs ls a1 a2 a3 a5 => lv_ineg C.1.1 C.1.2.1 hd (k H locs ls a1 a2 a3 a5)
theorem zz_ladd (C : zc X E cc nL own rm) {x y : Int64} (hd : decode cc pc = .ok (.ladd, 1)) (k : zz X E nL ad kc ks (pc + 1) L (.long (x + y) :: st) h) : zz X E nL ad kc ks pc L (.long y :: .long x :: st) h := by
  obtain ⟨p, l, e, R, s, m, args, below, meth, c, Q, A⟩ := X
  exact fun H locs ls a1 a2 a3 a5 => lv_ladd C.1.1 C.1.2.1 hd (k H locs ls a1 a2 a3 a5)
theorem zz_lsub (C : zc X E cc nL own rm) {x y : Int64} (hd : decode cc pc = .ok (.lsub, 1)) (k : zz X E nL ad kc ks (pc + 1) L (.long (x - y) :: st) h) : zz X E nL ad kc ks pc L (.long y :: .long x :: st) h := by
  obtain ⟨p, l, e, R, s, m, args, below, meth, c, Q, A⟩ := X
  exact fun H locs ls a1 a2 a3 a5 => lv_lsub C.1.1 C.1.2.1 hd (k H locs ls a1 a2 a3 a5)
theorem zz_lmul (C : zc X E cc nL own rm) {x y : Int64} (hd : decode cc pc = .ok (.lmul, 1)) (k : zz X E nL ad kc ks (pc + 1) L (.long (x * y) :: st) h) : zz X E nL ad kc ks pc L (.long y :: .long x :: st) h := by
  obtain ⟨p, l, e, R, s, m, args, below, meth, c, Q, A⟩ := X
  exact fun H locs ls a1 a2 a3 a5 => lv_lmul C.1.1 C.1.2.1 hd (k H locs ls a1 a2 a3 a5)
theorem zz_ldiv (C : zc X E cc nL own rm) {x y : Int64} (hd : decode cc pc = .ok (.ldiv, 1)) (hne : ¬ y = 0) (k : zz X E nL ad kc ks (pc + 1) L (.long (x / y) :: st) h) : zz X E nL ad kc ks pc L (.long y :: .long x :: st) h := by
  obtain ⟨p, l, e, R, s, m, args, below, meth, c, Q, A⟩ := X
  exact fun H locs ls a1 a2 a3 a5 => lv_ldiv C.1.1 C.1.2.1 hd hne (k H locs ls a1 a2 a3 a5)
theorem zz_i2l (C : zc X E cc nL own rm) {x : Int32} (hd : decode cc pc = .ok (.i2l, 1)) (k : zz X E nL ad kc ks (pc + 1) L (.long x.toInt64 :: st) h) : zz X E nL ad kc ks pc L (.int x :: st) h := by
  obtain ⟨p, l, e, R, s, m, args, below, meth, c, Q, A⟩ := X
  exact fun H locs ls a1 a2 a3 a5 => lv_i2l C.1.1 C.1.2.1 hd rfl (k H locs ls a1 a2 a3 a5)
theorem zz_l2i (C : zc X E cc nL own rm) {x : Int64} (hd : decode cc pc = .ok (.l2i, 1)) (k : zz X E nL ad kc ks (pc + 1) L (.int x.toInt32 :: st) h) : zz X E nL ad kc ks pc L (.long x :: st) h := by
  obtain ⟨p, l, e, R, s, m, args, below, meth, c, Q, A⟩ := X
  exact fun H locs ls a1 a2 a3 a5 => lv_l2i C.1.1 C.1.2.1 hd rfl (k H locs ls a1 a2 a3 a5)
theorem zz_dup (C : zc X E cc nL own rm) {va : Value} (hd : decode cc pc = .ok (.dup, 1)) (h1 : va.category = 1) (k : zz X E nL ad kc ks (pc + 1) L (va :: va :: st) h) : zz X E nL ad kc ks pc L (va :: st) h := by
  obtain ⟨p, l, e, R, s, m, args, below, meth, c, Q, A⟩ := X
  exact fun H locs ls a1 a2 a3 a5 => lv_dup C.1.1 C.1.2.1 hd h1 (k H locs ls a1 a2 a3 a5)
theorem zz_pop (C : zc X E cc nL own rm) {va : Value} (hd : decode cc pc = .ok (.pop, 1)) (h1 : va.category = 1) (k : zz X E nL ad kc ks (pc + 1) L (st) h) : zz X E nL ad kc ks pc L (va :: st) h := by
  obtain ⟨p, l, e, R, s, m, args, below, meth, c, Q, A⟩ := X
  exact fun H locs ls a1 a2 a3 a5 => lv_pop C.1.1 C.1.2.1 hd h1 (k H locs ls a1 a2 a3 a5)
theorem zz_dup_x1 (C : zc X E cc nL own rm) {va vb : Value} (hd : decode cc pc = .ok (.dup_x1, 1)) (h1 : va.category = 1) (h2 : vb.category = 1) (k : zz X E nL ad kc ks (pc + 1) L (va :: vb :: va :: st) h) : zz X E nL ad kc ks pc L (va :: vb :: st) h := by
  obtain ⟨p, l, e, R, s, m, args, below, meth, c, Q, A⟩ := X
  exact fun H locs ls a1 a2 a3 a5 => lv_dup_x1 C.1.1 C.1.2.1 hd h1 h2 (k H locs ls a1 a2 a3 a5)
theorem zz_dup2 (C : zc X E cc nL own rm) {va vb : Value} (hd : decode cc pc = .ok (.dup2, 1)) (h1 : va.category = 1) (h2 : vb.category = 1) (k : zz X E nL ad kc ks (pc + 1) L (va :: vb :: va :: vb :: st) h) : zz X E nL ad kc ks pc L (va :: vb :: st) h := by
  obtain ⟨p, l, e, R, s, m, args, below, meth, c, Q, A⟩ := X
  exact fun H locs ls a1 a2 a3 a5 => lv_dup2_11 C.1.1 C.1.2.1 hd h1 h2 (k H locs ls a1 a2 a3 a5)
theorem zz_dup_x2 (C : zc X E cc nL own rm) {va vb vd : Value} (hd : decode cc pc = .ok (.dup_x2, 1)) (h1 : va.category = 1) (h2 : vb.category = 1) (h3 : vd.category = 1) (k : zz X E nL ad kc ks (pc + 1) L (va :: vb :: vd :: va :: st) h) : zz X E nL ad kc ks pc L (va :: vb :: vd :: st) h := by
  obtain ⟨p, l, e, R, s, m, args, below, meth, c, Q, A⟩ := X
  exact fun H locs ls a1 a2 a3 a5 => lv_dup_x2 C.1.1 C.1.2.1 hd h1 h2 h3 (k H locs ls a1 a2 a3 a5)
theorem zz_if_eq (C : zc X E cc nL own rm) {off : Int} {tgt : Nat} {x : Int32} (hd : decode cc pc = .ok (.ifCond .eq off, 3)) (ht : (pc : Int) + off = (tgt : Int)) (kt : x = 0 → zz X E nL ad kc ks tgt L st h) (kf : ¬ x = 0 → zz X E nL ad kc ks (pc + 3) L st h) : zz X E nL ad kc ks pc L (.int x :: st) h := by
  obtain ⟨p, l, e, R, s, m, args, below, meth, c, Q, A⟩ := X
  exact fun H locs ls a1 a2 a3 a5 => lv_if_eq C.1.1 C.1.2.1 hd ht (fun q => kt q H locs ls a1 a2 a3 a5) (fun q => kf q H locs ls a1 a2 a3 a5)
theorem zz_icmp_eq (C : zc X E cc nL own rm) {off : Int} {tgt : Nat} {x y : Int32} (hd : decode cc pc = .ok (.if_icmp .eq off, 3)) (ht : (pc : Int) + off = (tgt : Int)) (kt : x = y → zz X E nL ad kc ks tgt L st h) (kf : ¬ x = y → zz X E nL ad kc ks (pc + 3) L st h) : zz X E nL ad kc ks pc L (.int y :: .int x :: st) h := by
  obtain ⟨p, l, e, R, s, m, args, below, meth, c, Q, A⟩ := X
  exact fun H locs ls a1 a2 a3 a5 => lv_icmp_eq C.1.1 C.1.2.1 hd ht (fun q => kt q H locs ls a1 a2 a3 a5) (fun q => kf q H locs ls a1 a2 a3 a5)
theorem zz_if_ne (C : zc X E cc nL own rm) {off : Int} {tgt : Nat} {x : Int32} (hd : decode cc pc = .ok (.ifCond .ne off, 3)) (ht : (pc : Int) + off = (tgt : Int)) (kt : ¬ x = 0 → zz X E nL ad kc ks tgt L st h) (kf : x = 0 → zz X E nL ad kc ks (pc + 3) L st h) : zz X E nL ad kc ks pc L (.int x :: st) h := by
  obtain ⟨p, l, e, R, s, m, args, below, meth, c, Q, A⟩ := X
  exact fun H locs ls a1 a2 a3 a5 => lv_if_ne C.1.1 C.1.2.1 hd ht (fun q => kt q H locs ls a1 a2 a3 a5) (fun q => kf q H locs ls a1 a2 a3 a5)
theorem zz_icmp_ne (C : zc X E cc nL own rm) {off : Int} {tgt : Nat} {x y : Int32} (hd : decode cc pc = .ok (.if_icmp .ne off, 3)) (ht : (pc : Int) + off = (tgt : Int)) (kt : ¬ x = y → zz X E nL ad kc ks tgt L st h) (kf : x = y → zz X E nL ad kc ks (pc + 3) L st h) : zz X E nL ad kc ks pc L (.int y :: .int x :: st) h := by
  obtain ⟨p, l, e, R, s, m, args, below, meth, c, Q, A⟩ := X
  exact fun H locs ls a1 a2 a3 a5 => lv_icmp_ne C.1.1 C.1.2.1 hd ht (fun q => kt q H locs ls a1 a2 a3 a5) (fun q => kf q H locs ls a1 a2 a3 a5)
theorem zz_if_lt (C : zc X E cc nL own rm) {off : Int} {tgt : Nat} {x : Int32} (hd : decode cc pc = .ok (.ifCond .lt off, 3)) (ht : (pc : Int) + off = (tgt : Int)) (kt : x < 0 → zz X E nL ad kc ks tgt L st h) (kf : ¬ x < 0 → zz X E nL ad kc ks (pc + 3) L st h) : zz X E nL ad kc ks pc L (.int x :: st) h := by
  obtain ⟨p, l, e, R, s, m, args, below, meth, c, Q, A⟩ := X
  exact fun H locs ls a1 a2 a3 a5 => lv_if_lt C.1.1 C.1.2.1 hd ht (fun q => kt q H locs ls a1 a2 a3 a5) (fun q => kf q H locs ls a1 a2 a3 a5)
theorem zz_icmp_lt (C : zc X E cc nL own rm) {off : Int} {tgt : Nat} {x y : Int32} (hd : decode cc pc = .ok (.if_icmp .lt off, 3)) (ht : (pc : Int) + off = (tgt : Int)) (kt : x < y → zz X E nL ad kc ks tgt L st h) (kf : ¬ x < y → zz X E nL ad kc ks (pc + 3) L st h) : zz X E nL ad kc ks pc L (.int y :: .int x :: st) h := by
  obtain ⟨p, l, e, R, s, m, args, below, meth, c, Q, A⟩ := X
  exact fun H locs ls a1 a2 a3 a5 => lv_icmp_lt C.1.1 C.1.2.1 hd ht (fun q => kt q H locs ls a1 a2 a3 a5) (fun q => kf q H locs ls a1 a2 a3 a5)
theorem zz_if_ge (C : zc X E cc nL own rm) {off : Int} {tgt : Nat} {x : Int32} (hd : decode cc pc = .ok (.ifCond .ge off, 3)) (ht : (pc : Int) + off = (tgt : Int)) (kt : 0 ≤ x → zz X E nL ad kc ks tgt L st h) (kf : ¬ 0 ≤ x → zz X E nL ad kc ks (pc + 3) L st h) : zz X E nL ad kc ks pc L (.int x :: st) h := by
  obtain ⟨p, l, e, R, s, m, args, below, meth, c, Q, A⟩ := X
  exact fun H locs ls a1 a2 a3 a5 => lv_if_ge C.1.1 C.1.2.1 hd ht (fun q => kt q H locs ls a1 a2 a3 a5) (fun q => kf q H locs ls a1 a2 a3 a5)
theorem zz_icmp_ge (C : zc X E cc nL own rm) {off : Int} {tgt : Nat} {x y : Int32} (hd : decode cc pc = .ok (.if_icmp .ge off, 3)) (ht : (pc : Int) + off = (tgt : Int)) (kt : y ≤ x → zz X E nL ad kc ks tgt L st h) (kf : ¬ y ≤ x → zz X E nL ad kc ks (pc + 3) L st h) : zz X E nL ad kc ks pc L (.int y :: .int x :: st) h := by
  obtain ⟨p, l, e, R, s, m, args, below, meth, c, Q, A⟩ := X
  exact fun H locs ls a1 a2 a3 a5 => lv_icmp_ge C.1.1 C.1.2.1 hd ht (fun q => kt q H locs ls a1 a2 a3 a5) (fun q => kf q H locs ls a1 a2 a3 a5)
theorem zz_if_gt (C : zc X E cc nL own rm) {off : Int} {tgt : Nat} {x : Int32} (hd : decode cc pc = .ok (.ifCond .gt off, 3)) (ht : (pc : Int) + off = (tgt : Int)) (kt : 0 < x → zz X E nL ad kc ks tgt L st h) (kf : ¬ 0 < x → zz X E nL ad kc ks (pc + 3) L st h) : zz X E nL ad kc ks pc L (.int x :: st) h := by
  obtain ⟨p, l, e, R, s, m, args, below, meth, c, Q, A⟩ := X
  exact fun H locs ls a1 a2 a3 a5 => lv_if_gt C.1.1 C.1.2.1 hd ht (fun q => kt q H locs ls a1 a2 a3 a5) (fun q => kf q H locs ls a1 a2 a3 a5)
theorem zz_icmp_gt (C : zc X E cc nL own rm) {off : Int} {tgt : Nat} {x y : Int32} (hd : decode cc pc = .ok (.if_icmp .gt off, 3)) (ht : (pc : Int) + off = (tgt : Int)) (kt : y < x → zz X E nL ad kc ks tgt L st h) (kf : ¬ y < x → zz X E nL ad kc ks (pc + 3) L st h) : zz X E nL ad kc ks pc L (.int y :: .int x :: st) h := by
  obtain ⟨p, l, e, R, s, m, args, below, meth, c, Q, A⟩ := X
  exact fun H locs ls a1 a2 a3 a5 => lv_icmp_gt C.1.1 C.1.2.1 hd ht (fun q => kt q H locs ls a1 a2 a3 a5) (fun q => kf q H locs ls a1 a2 a3 a5)
theorem zz_if_le (C : zc X E cc nL own rm) {off : Int} {tgt : Nat} {x : Int32} (hd : decode cc pc = .ok (.ifCond .le off, 3)) (ht : (pc : Int) + off = (tgt : Int)) (kt : x ≤ 0 → zz X E nL ad kc ks tgt L st h) (kf : ¬ x ≤ 0 → zz X E nL ad kc ks (pc + 3) L st h) : zz X E nL ad kc ks pc L (.int x :: st) h := by
  obtain ⟨p, l, e, R, s, m, args, below, meth, c, Q, A⟩ := X
  exact fun H locs ls a1 a2 a3 a5 => lv_if_le C.1.1 C.1.2.1 hd ht (fun q => kt q H locs ls a1 a2 a3 a5) (fun q => kf q H locs ls a1 a2 a3 a5)
theorem zz_icmp_le (C : zc X E cc nL own rm) {off : Int} {tgt : Nat} {x y : Int32} (hd : decode cc pc = .ok (.if_icmp .le off, 3)) (ht : (pc : Int) + off = (tgt : Int)) (kt : x ≤ y → zz X E nL ad kc ks tgt L st h) (kf : ¬ x ≤ y → zz X E nL ad kc ks (pc + 3) L st h) : zz X E nL ad kc ks pc L (.int y :: .int x :: st) h := by
  obtain ⟨p, l, e, R, s, m, args, below, meth, c, Q, A⟩ := X
  exact fun H locs ls a1 a2 a3 a5 => lv_icmp_le C.1.1 C.1.2.1 hd ht (fun q => kt q H locs ls a1 a2 a3 a5) (fun q => kf q H locs ls a1 a2 a3 a5)
theorem zz_goto (C : zc X E cc nL own rm) {off : Int} {tgt : Nat} (hd : decode cc pc = .ok (.goto off, 3)) (ht : (pc : Int) + off = (tgt : Int)) (k : zz X E nL ad kc ks tgt L st h) : zz X E nL ad kc ks pc L st h := by
  obtain ⟨p, l, e, R, s, m, args, below, meth, c, Q, A⟩ := X
  exact fun H locs ls a1 a2 a3 a5 => lv_goto C.1.1 C.1.2.1 hd ht (k H locs ls a1 a2 a3 a5)
theorem zz_widen {kc' ks' : Nat} (h1 : kc ≤ kc') (h2 : ks ≤ ks') (k : zz X E nL ad kc' ks' pc L st h) : zz X E nL ad kc ks pc L st h := by
  obtain ⟨p, l, e, R, s, m, args, below, meth, c, Q, A⟩ := X
  exact fun H locs ls a1 a2 a3 a5 => W.widen h1 h2 (k H locs ls a1 a2 a3 a5)
theorem zz_lcmp (C : zc X E cc nL own rm) {x y : Int64} (hd : decode cc pc = .ok (.lcmp, 1)) (k : zz X E nL ad kc ks (pc + 1) L (.int (lg_cmp x y) :: st) h) : zz X E nL ad kc ks pc L (.long y :: .long x :: st) h := by
  obtain ⟨p, l, e, R, s, m, args, below, meth, c, Q, A⟩ := X
  exact fun H locs ls a1 a2 a3 a5 => W.lcmp C.1.1 C.1.2.1 hd (k H locs ls a1 a2 a3 a5)
theorem zz_null (C : zc X E cc nL own rm) (hd : decode cc pc = .ok (.aconst_null, 1)) (k : zz X E nL ad kc ks (pc + 1) L (.null :: st) h) : zz X E nL ad kc ks pc L (st) h := by
  obtain ⟨p, l, e, R, s, m, args, below, meth, c, Q, A⟩ := X
  exact fun H locs ls a1 a2 a3 a5 => lv_null C.1.1 C.1.2.1 hd (k H locs ls a1 a2 a3 a5)
theorem zz_aload_nN (C : zc X E cc nL own rm) {j : Fin 4} {i : Nat} (hd : decode cc pc = .ok (.aload_n j, 1)) (hi : (j : Nat) = i) (hl : L[i]? = some (some .null)) (k : zz X E nL ad kc ks (pc + 1) L (.null :: st) h) : zz X E nL ad kc ks pc L (st) h := by
  obtain ⟨p, l, e, R, s, m, args, below, meth, c, Q, A⟩ := X
  exact fun H locs ls a1 a2 a3 a5 => lv_aload_nN C.1.1 C.1.2.1 hd hi (a5.2.2 i _ hl) (k H locs ls a1 a2 a3 a5)
theorem zz_aloadN (C : zc X E cc nL own rm) {i : Nat} (hd : decode cc pc = .ok (.aload i, 2)) (hl : L[i]? = some (some .null)) (k : zz X E nL ad kc ks (pc + 2) L (.null :: st) h) : zz X E nL ad kc ks pc L (st) h := by
  obtain ⟨p, l, e, R, s, m, args, below, meth, c, Q, A⟩ := X
  exact fun H locs ls a1 a2 a3 a5 => lv_aloadN C.1.1 C.1.2.1 hd (a5.2.2 i _ hl) (k H locs ls a1 a2 a3 a5)
theorem zz_astore_nN (C : zc X E cc nL own rm) {j : Fin 4} {i : Nat} (hd : decode cc pc = .ok (.astore_n j, 1)) (hi : (j : Nat) = i) (hn : i < nL) (hk : zk1 L i = true) (k : zz X E nL ad kc ks (pc + 1) (L.set i (some .null)) (st) h) : zz X E nL ad kc ks pc L (.null :: st) h := by
  obtain ⟨p, l, e, R, s, m, args, below, meth, c, Q, A⟩ := X
  exact fun H locs ls a1 a2 a3 a5 => lv_astore_nN C.1.1 C.1.2.1 hd hi a5.has hn rfl (fun ls' a6 => k H locs ls' a1 a2 a3 (zL.set1 hk a6))
theorem zz_astoreN (C : zc X E cc nL own rm) {i : Nat} (hd : decode cc pc = .ok (.astore i, 2)) (hn : i < nL) (hk : zk1 L i = true) (k : zz X E nL ad kc ks (pc + 2) (L.set i (some .null)) (st) h) : zz X E nL ad kc ks pc L (.null :: st) h := by
  obtain ⟨p, l, e, R, s, m, args, below, meth, c, Q, A⟩ := X
  exact fun H locs ls a1 a2 a3 a5 => lv_astoreN C.1.1 C.1.2.1 hd a5.has hn rfl (fun ls' a6 => k H locs ls' a1 a2 a3 (zL.set1 hk a6))
theorem zz_ldc (C : zc X E cc nL own rm) {index : Nat} (v : Int32) (hd : decode cc pc = .ok (.ldc index, 2)) (hq : Cond.constant own index v ∈ zt) (k : zz X E nL ad kc ks (pc + 2) L (.int v :: st) h) : zz X E nL ad kc ks pc L (st) h := by
  obtain ⟨p, l, e, R, s, m, args, below, meth, c, Q, A⟩ := X
  exact fun H locs ls a1 a2 a3 a5 => lv_ldc C.1.1 C.1.2.1 C.1.2.2.2.1 (C.1.2.2.2.2 _ hq) hd (k H locs ls a1 a2 a3 a5)
theorem zz_ldc2 (C : zc X E cc nL own rm) {index : Nat} (v : Int64) (hd : decode cc pc = .ok (.ldc2_w index, 3)) (hq : Cond.constantLong own index v ∈ zt) (k : zz X E nL ad kc ks (pc + 3) L (.long v :: st) h) : zz X E nL ad kc ks pc L (st) h := by
  obtain ⟨p, l, e, R, s, m, args, below, meth, c, Q, A⟩ := X
  exact fun H locs ls a1 a2 a3 a5 => lv_ldc2 C.1.1 C.1.2.1 C.1.2.2.2.1 (C.1.2.2.2.2 _ hq) hd (k H locs ls a1 a2 a3 a5)
theorem zz_ifnonnull (C : zc X E cc nL own rm) {x : Nat} {off : Int} {tgt : Nat} (hd : decode cc pc = .ok (.ifnonnull off, 3)) (ht : (pc : Int) + off = (tgt : Int)) (k : zz X E nL ad kc ks tgt L st h) : zz X E nL ad kc ks pc L (.ref x :: st) h := by
  obtain ⟨p, l, e, R, s, m, args, below, meth, c, Q, A⟩ := X
  exact fun H locs ls a1 a2 a3 a5 => lv_ifnonnull C.1.1 C.1.2.1 hd ht (k H locs ls a1 a2 a3 a5)
theorem zz_ifnull (C : zc X E cc nL own rm) {x : Nat} {off : Int} (hd : decode cc pc = .ok (.ifnull off, 3)) (k : zz X E nL ad kc ks (pc + 3) L st h) : zz X E nL ad kc ks pc L (.ref x :: st) h := by
  obtain ⟨p, l, e, R, s, m, args, below, meth, c, Q, A⟩ := X
  exact fun H locs ls a1 a2 a3 a5 => lv_ifnull C.1.1 C.1.2.1 hd (k H locs ls a1 a2 a3 a5)
theorem zz_ifnullN (C : zc X E cc nL own rm) {off : Int} {tgt : Nat} (hd : decode cc pc = .ok (.ifnull off, 3)) (ht : (pc : Int) + off = (tgt : Int)) (k : zz X E nL ad kc ks tgt L st h) : zz X E nL ad kc ks pc L (.null :: st) h := by
  obtain ⟨p, l, e, R, s, m, args, below, meth, c, Q, A⟩ := X
  exact fun H locs ls a1 a2 a3 a5 => lv_ifnullN C.1.1 C.1.2.1 hd ht (k H locs ls a1 a2 a3 a5)
theorem zz_ifnonnullN (C : zc X E cc nL own rm) {off : Int} (hd : decode cc pc = .ok (.ifnonnull off, 3)) (k : zz X E nL ad kc ks (pc + 3) L st h) : zz X E nL ad kc ks pc L (.null :: st) h := by
  obtain ⟨p, l, e, R, s, m, args, below, meth, c, Q, A⟩ := X
  exact fun H locs ls a1 a2 a3 a5 => lv_ifnonnullN C.1.1 C.1.2.1 hd (k H locs ls a1 a2 a3 a5)
theorem zz_tableOut (C : zc X E cc nL own rm) {dflt lo hi : Int} {offs : Array Int} {len : Nat} {x : Int32} {tgt : Nat} (hd : decode cc pc = .ok (.tableswitch dflt lo hi offs, len)) (hx : x.toInt < lo ∨ hi < x.toInt) (ht : (pc : Int) + dflt = (tgt : Int)) (k : zz X E nL ad kc ks tgt L st h) : zz X E nL ad kc ks pc L (.int x :: st) h := by
  obtain ⟨p, l, e, R, s, m, args, below, meth, c, Q, A⟩ := X
  exact fun H locs ls a1 a2 a3 a5 => lv_tableOut C.1.1 C.1.2.1 hd hx ht (k H locs ls a1 a2 a3 a5)
theorem zz_tableIn (C : zc X E cc nL own rm) {dflt lo hi : Int} {offs : Array Int} {len : Nat} {x : Int32} {off : Int} {tgt : Nat} (hd : decode cc pc = .ok (.tableswitch dflt lo hi offs, len)) (h1 : ¬ x.toInt < lo) (h2 : ¬ hi < x.toInt) (ho : offs[(x.toInt - lo).toNat]? = some off) (ht : (pc : Int) + off = (tgt : Int)) (k : zz X E nL ad kc ks tgt L st h) : zz X E nL ad kc ks pc L (.int x :: st) h := by
  obtain ⟨p, l, e, R, s, m, args, below, meth, c, Q, A⟩ := X
  exact fun H locs ls a1 a2 a3 a5 => lv_tableIn C.1.1 C.1.2.1 hd h1 h2 ho ht (k H locs ls a1 a2 a3 a5)
theorem zz_lookup (C : zc X E cc nL own rm) {dflt : Int} {ps : Array (Int × Int)} {len : Nat} {x : Int32} {off : Int} {tgt : Nat} (hd : decode cc pc = .ok (.lookupswitch dflt ps, len)) (hp : (ps.toList.zip (ps.toList.drop 1)).all (fun (a, next) => a.1 < next.1) = true) (ho : Op.lookupswitch.offset ps.toList dflt x.toInt = off) (ht : (pc : Int) + off = (tgt : Int)) (k : zz X E nL ad kc ks tgt L st h) : zz X E nL ad kc ks pc L (.int x :: st) h := by
  obtain ⟨p, l, e, R, s, m, args, below, meth, c, Q, A⟩ := X
  exact fun H locs ls a1 a2 a3 a5 => lv_lookup C.1.1 C.1.2.1 hd hp ho ht (k H locs ls a1 a2 a3 a5)
/-- of an instance field: the class's number ci, the field's place j -/
def zf (own : String) (index ci j : Nat) : Prop := ∃ (Cn : String) (T : u_T) (N : Nat), zCl[ci]? = some (Cn, T, N) ∧ j < N ∧ (∀ w ∈ u_ws Cn T N, w ∈ zt) ∧ Cond.fieldLink own index (T j).1 (T j).2.1 (T j).2.2.1 ∈ zt
def zfp (own : String) (index ci j : Nat) (ty : FieldType) : Prop := ∃ (Cn : String) (T : u_T) (N : Nat) (ty0 : Nat → FieldType), zCl[ci]? = some (Cn, T, N) ∧ j < N ∧ (∀ w ∈ u_ws Cn T N, w ∈ zt) ∧ Cond.fieldLink own index (T j).1 (T j).2.1 (T j).2.2.1 ∈ zt ∧ (∀ k, k < N → parseFieldDescriptor (T k).2.2.1 = some (ty0 k)) ∧ (∀ a, a < N → ∀ b, b < N → a ≠ b → (T a).2.1 ≠ (T b).2.1) ∧ (T j).2.2.2 = false ∧ parseFieldDescriptor (T j).2.2.1 = some ty
theorem zz_get (C : zc X E cc nL own rm) {index ci j k : Nat} {fs : List Value} {v : Value} (hd : decode cc pc = .ok (.getfield index, 3)) (hf : zf own index ci j) (he : zg h k = some (.inr (ci, fs))) (hv : fs[j]? = some v) (kk : zz X E nL ad kc ks (pc + 3) L (v :: st) h) : zz X E nL ad kc ks pc L (.ref (ad k) :: st) h := by
  obtain ⟨p, l, e, R, s, m, args, below, meth, c, Q, A⟩ := X
  obtain ⟨⟨hx, hb, hml, hown, hts⟩, ⟨hK, hN⟩, hA, hR⟩ := C
  obtain ⟨Cn, T, N, h1, h2, h3, h4⟩ := hf
  obtain ⟨i, hi, -, -⟩ := zg_at he
  exact fun H locs ls a1 a2 a3 a5 => va_get (D := E.1) hx hb hts h3 hown hK a1 i (zw_at hi) h1 j h2 (hts _ h4) (fun _ q => q) hv hd (kk H locs ls a1 a2 a3 a5)
theorem zz_put (C : zc X E cc nL own rm) {index ci j k : Nat} {fs : List Value} {v : Value} {ty : FieldType} (hd : decode cc pc = .ok (.putfield index, 3)) (hf : zfp own index ci j ty) (he : zg h k = some (.inr (ci, fs))) (hn : narrow ty v = v) (hfit : fits ty v = true) (hl : j < fs.length) (kk : ∀ h' : zH, zg h' k = some (.inr (ci, fs.set j v)) → (∀ i, i ≠ k → zg h' i = zg h i) → zz X E nL ad kc ks (pc + 3) L st h') : zz X E nL ad kc ks pc L (v :: .ref (ad k) :: st) h := by
  obtain ⟨p, l, e, R, s, m, args, below, meth, c, Q, A⟩ := X
  obtain ⟨⟨hx, hb, hml, hown, hts⟩, ⟨hK, hN⟩, hA, hR⟩ := C
  obtain ⟨Cn, T, N, ty0, hc, hk, hin, hlink, hty, hnm, hfin, hdsc⟩ := hf
  obtain ⟨i, hi, g1, g2⟩ := zg_at he
  intro H locs ls a1 a2 a3 a5
  refine va_put (D := E.1) hx hb hts hin ty0 hty hnm hown hK a1 a2 a3 i (zw_at hi) hc j hk (hts _ hlink) (fun _ q => q) hfin hdsc hn hfit hl hd fun H1 locs1 b1 b2 b3 => ?_
  rw [zw_set] at b1 b2
  exact kk _ (g1 _) (g2 _) H1 locs1 ls b1 b2 b3 a5
theorem zz_iald (C : zc X E cc nL own rm) (t0 : Nat) {k n j : Nat} {cA : ClassId} {f : Nat → Int32} {i : Int32} (hd : decode cc pc = .ok (.iaload, 1)) (he : zg h k = some (.inl (cA, n, .inl f))) (ht : (zT E)[t0]? = some (cA, .int)) (hi : i = nI j) (hj : j < n) (hn : n < 2 ^ 31) (kk : zz X E nL ad kc ks (pc + 1) L (.int (f j) :: st) h) : zz X E nL ad kc ks pc L (.int i :: .ref (ad k) :: st) h := by
  obtain ⟨p, l, e, R, s, m, args, below, meth, c, Q, A⟩ := X
  obtain ⟨⟨hx, hb, hml, hown, hts⟩, ⟨hK, hN⟩, hA, hR⟩ := C
  subst hi
  have hcl : (nI j).toNatClampNeg = j := nI_clamp (Nat.lt_trans hj hn)
  obtain ⟨q, hq, -, -⟩ := zg_at he
  exact fun H locs ls a1 a2 a3 a5 => va_iald hx hb hK a1 q t0 (zw_at hq) ht (vp_in_nI hj hn) hd (by rw [hcl]; exact kk H locs ls a1 a2 a3 a5)
theorem zz_zald (C : zc X E cc nL own rm) (t0 : Nat) {k n j : Nat} {cA : ClassId} {f : Nat → Int32} {i : Int32} (hd : decode cc pc = .ok (.baload, 1)) (he : zg h k = some (.inl (cA, n, .inl f))) (ht : (zT E)[t0]? = some (cA, .boolean)) (hi : i = nI j) (hj : j < n) (hn : n < 2 ^ 31) (kk : zz X E nL ad kc ks (pc + 1) L (.int (f j) :: st) h) : zz X E nL ad kc ks pc L (.int i :: .ref (ad k) :: st) h := by
  obtain ⟨p, l, e, R, s, m, args, below, meth, c, Q, A⟩ := X
  obtain ⟨⟨hx, hb, hml, hown, hts⟩, ⟨hK, hN⟩, hA, hR⟩ := C
  subst hi
  have hcl : (nI j).toNatClampNeg = j := nI_clamp (Nat.lt_trans hj hn)
  obtain ⟨q, hq, -, -⟩ := zg_at he
  exact fun H locs ls a1 a2 a3 a5 => va_zald hx hb hK a1 q t0 (zw_at hq) ht (vp_in_nI hj hn) hd (by rw [hcl]; exact kk H locs ls a1 a2 a3 a5)
theorem zz_lald (C : zc X E cc nL own rm) (t0 : Nat) {k n j : Nat} {cA : ClassId} {f : Nat → Int64} {i : Int32} (hd : decode cc pc = .ok (.laload, 1)) (he : zg h k = some (.inl (cA, n, .inr (.inl f)))) (ht : (zT E)[t0]? = some (cA, .long)) (hi : i = nI j) (hj : j < n) (hn : n < 2 ^ 31) (kk : zz X E nL ad kc ks (pc + 1) L (.long (f j) :: st) h) : zz X E nL ad kc ks pc L (.int i :: .ref (ad k) :: st) h := by
  obtain ⟨p, l, e, R, s, m, args, below, meth, c, Q, A⟩ := X
  obtain ⟨⟨hx, hb, hml, hown, hts⟩, ⟨hK, hN⟩, hA, hR⟩ := C
  subst hi
  have hcl : (nI j).toNatClampNeg = j := nI_clamp (Nat.lt_trans hj hn)
  obtain ⟨q, hq, -, -⟩ := zg_at he
  exact fun H locs ls a1 a2 a3 a5 => va_lald hx hb hK a1 q t0 (zw_at hq) ht (vp_in_nI hj hn) hd (by rw [hcl]; exact kk H locs ls a1 a2 a3 a5)
theorem zz_aald (C : zc X E cc nL own rm) (t0 : Nat) {k n j : Nat} {cA : ClassId} {ty : FieldType} {f : Nat → Option Nat} {i : Int32} {v : Value} (hd : decode cc pc = .ok (.aaload, 1)) (he : zg h k = some (.inl (cA, n, .inr (.inr (.inr (.inr f)))))) (ht : (zT E)[t0]? = some (cA, ty)) (hty : ty.isReference = true) (hi : i = nI j) (hj : j < n) (hn : n < 2 ^ 31) (hv : va_rf (f j) = v) (kk : zz X E nL ad kc ks (pc + 1) L (v :: st) h) : zz X E nL ad kc ks pc L (.int i :: .ref (ad k) :: st) h := by
  obtain ⟨p, l, e, R, s, m, args, below, meth, c, Q, A⟩ := X
  obtain ⟨⟨hx, hb, hml, hown, hts⟩, ⟨hK, hN⟩, hA, hR⟩ := C
  subst hi
  have hcl : (nI j).toNatClampNeg = j := nI_clamp (Nat.lt_trans hj hn)
  obtain ⟨q, hq, -, -⟩ := zg_at he
  intro H locs ls a1 a2 a3 a5
  have hat : H[ad k]? = some (arrV cA n (fun j => va_rf (f j))) := a1 q _ (zw_at hq)
  refine W.aald (v := v) (ty := ty) hx hb hat ((hK.2 t0 _ ht).1 n (fun j => va_rf (f j))) hty (fun q => by cases q) (by rw [arrV_size]; exact vp_in_nI hj hn) (by rw [arrV_read _ _ (by rw [hcl]; exact hj), hcl, hv]) rfl rfl hd (kk H locs ls a1 a2 a3 a5)
theorem zz_iast (C : zc X E cc nL own rm) (t0 : Nat) {k n j : Nat} {cA : ClassId} {f : Nat → Int32} {i : Int32} {x : Int32} (hd : decode cc pc = .ok (.iastore, 1)) (he : zg h k = some (.inl (cA, n, .inl f))) (ht : (zT E)[t0]? = some (cA, .int)) (hi : i = nI j) (hj : j < n) (hn : n < 2 ^ 31) (kk : ∀ h' : zH, zg h' k = some (.inl (cA, n, .inl (upd f j x))) → (∀ i, i ≠ k → zg h' i = zg h i) → zz X E nL ad kc ks (pc + 1) L st h') : zz X E nL ad kc ks pc L (.int x :: .int i :: .ref (ad k) :: st) h := by
  obtain ⟨p, l, e, R, s, m, args, below, meth, c, Q, A⟩ := X
  obtain ⟨⟨hx, hb, hml, hown, hts⟩, ⟨hK, hN⟩, hA, hR⟩ := C
  subst hi
  have hcl : (nI j).toNatClampNeg = j := nI_clamp (Nat.lt_trans hj hn)
  obtain ⟨q, hq, g1, g2⟩ := zg_at he
  intro H locs ls a1 a2 a3 a5
  refine va_iast hx hb hK a1 a2 a3 q t0 (zw_at hq) ht (vp_in_nI hj hn) hd fun H1 locs1 b1 b2 b3 => ?_
  rw [zw_set] at b1 b2
  rw [hcl] at b1 b2
  exact kk _ (g1 _) (g2 _) H1 locs1 ls b1 b2 b3 a5
theorem zz_zast (C : zc X E cc nL own rm) (t0 : Nat) {k n j : Nat} {cA : ClassId} {f : Nat → Int32} {i : Int32} {x : Int32} (hd : decode cc pc = .ok (.bastore, 1)) (he : zg h k = some (.inl (cA, n, .inl f))) (ht : (zT E)[t0]? = some (cA, .boolean)) (hi : i = nI j) (hj : j < n) (hn : n < 2 ^ 31) (kk : ∀ h' : zH, zg h' k = some (.inl (cA, n, .inl (upd f j (vp_nar .boolean x)))) → (∀ i, i ≠ k → zg h' i = zg h i) → zz X E nL ad kc ks (pc + 1) L st h') : zz X E nL ad kc ks pc L (.int x :: .int i :: .ref (ad k) :: st) h := by
  obtain ⟨p, l, e, R, s, m, args, below, meth, c, Q, A⟩ := X
  obtain ⟨⟨hx, hb, hml, hown, hts⟩, ⟨hK, hN⟩, hA, hR⟩ := C
  subst hi
  have hcl : (nI j).toNatClampNeg = j := nI_clamp (Nat.lt_trans hj hn)
  obtain ⟨q, hq, g1, g2⟩ := zg_at he
  intro H locs ls a1 a2 a3 a5
  refine va_zast hx hb hK a1 a2 a3 q t0 (zw_at hq) ht (vp_in_nI hj hn) hd fun H1 locs1 b1 b2 b3 => ?_
  rw [zw_set] at b1 b2
  rw [hcl] at b1 b2
  exact kk _ (g1 _) (g2 _) H1 locs1 ls b1 b2 b3 a5
theorem zz_last (C : zc X E cc nL own rm) (t0 : Nat) {k n j : Nat} {cA : ClassId} {f : Nat → Int64} {i : Int32} {x : Int64} (hd : decode cc pc = .ok (.lastore, 1)) (he : zg h k = some (.inl (cA, n, .inr (.inl f)))) (ht : (zT E)[t0]? = some (cA, .long)) (hi : i = nI j) (hj : j < n) (hn : n < 2 ^ 31) (kk : ∀ h' : zH, zg h' k = some (.inl (cA, n, .inr (.inl (vp_updL f j x)))) → (∀ i, i ≠ k → zg h' i = zg h i) → zz X E nL ad kc ks (pc + 1) L st h') : zz X E nL ad kc ks pc L (.long x :: .int i :: .ref (ad k) :: st) h := by
  obtain ⟨p, l, e, R, s, m, args, below, meth, c, Q, A⟩ := X
  obtain ⟨⟨hx, hb, hml, hown, hts⟩, ⟨hK, hN⟩, hA, hR⟩ := C
  subst hi
  have hcl : (nI j).toNatClampNeg = j := nI_clamp (Nat.lt_trans hj hn)
  obtain ⟨q, hq, g1, g2⟩ := zg_at he
  intro H locs ls a1 a2 a3 a5
  refine va_last hx hb hK a1 a2 a3 q t0 (zw_at hq) ht (vp_in_nI hj hn) hd fun H1 locs1 b1 b2 b3 => ?_
  rw [zw_set] at b1 b2
  rw [hcl] at b1 b2
  exact kk _ (g1 _) (g2 _) H1 locs1 ls b1 b2 b3 a5
/-- the world behind a method -/
theorem zr_end {p : Program} {l : Launch} {e : Env} {R : Room} {s : State} {m : MethodId} {args : Array Value} {below : List Frame} {meth : Method} {c : Code} {Q : State → Prop} {A : Nat → Prop} {r : Option Value} {post : Option Value → (Nat → Nat) → zH → Prop} {H : Heap} {locs : List Loc} (hp : post r ad h) (a1 : va_P E.1 zCl (zw ad h) H) (a2 : va_D A (zw ad h)) (a3 : va_S A s.heap H locs) : ∀ t : State, t.heap = H → s.WarmedH t.vm → zQc E A post args s (.returned r) t :=
  fun t ht hW => ⟨⟨r, ad, h, rfl, hp, by rw [ht]; exact a1, a2⟩, a3.F ht⟩
theorem zz_iret (C : zc X E cc nL own rm) {post : Option Value → (Nat → Nat) → zH → Prop} (Z : zr X E (some .int) kc ks post) {v : Int32} (hd : decode cc pc = .ok (.ireturn, 1)) (hp : post (some (.int v)) ad h) : zz X E nL ad kc ks pc L [.int v] h := by
  obtain ⟨p, l, e, R, s, m, args, below, meth, c, Q, A⟩ := X
  obtain ⟨⟨hx, hb, hml, hown, hts⟩, ⟨hK, hN⟩, hA, hR⟩ := C
  obtain ⟨hr, hlk, rfl⟩ := Z
  exact fun H locs ls a1 a2 a3 a5 => W.iret hx hb hr (zr_end (p := p) (l := l) (e := e) (R := R) (m := m) (below := below) (meth := meth) (c := c) (Q := fun _ => True) hp a1 a2 a3) a3.2.2 hd hlk
theorem zz_zret (C : zc X E cc nL own rm) {post : Option Value → (Nat → Nat) → zH → Prop} (Z : zr X E (some .boolean) kc ks post) {v : Int32} (hd : decode cc pc = .ok (.ireturn, 1)) (hn : narrow .boolean (.int v) = .int v) (hp : post (some (.int v)) ad h) : zz X E nL ad kc ks pc L [.int v] h := by
  obtain ⟨p, l, e, R, s, m, args, below, meth, c, Q, A⟩ := X
  obtain ⟨⟨hx, hb, hml, hown, hts⟩, ⟨hK, hN⟩, hA, hR⟩ := C
  obtain ⟨hr, hlk, rfl⟩ := Z
  exact fun H locs ls a1 a2 a3 a5 => W.zret hx hb hr hn (zr_end (p := p) (l := l) (e := e) (R := R) (m := m) (below := below) (meth := meth) (c := c) (Q := fun _ => True) hp a1 a2 a3) a3.2.2 hd hlk
theorem zz_vret (C : zc X E cc nL own rm) {post : Option Value → (Nat → Nat) → zH → Prop} (Z : zr X E none kc ks post) (hd : decode cc pc = .ok (.return_, 1)) (hp : post none ad h) : zz X E nL ad kc ks pc L [] h := by
  obtain ⟨p, l, e, R, s, m, args, below, meth, c, Q, A⟩ := X
  obtain ⟨⟨hx, hb, hml, hown, hts⟩, ⟨hK, hN⟩, hA, hR⟩ := C
  obtain ⟨hr, hlk, rfl⟩ := Z
  exact fun H locs ls a1 a2 a3 a5 => W.vret hx hb hr (zr_end (p := p) (l := l) (e := e) (R := R) (m := m) (below := below) (meth := meth) (c := c) (Q := fun _ => True) hp a1 a2 a3) a3.2.2 hd hlk
theorem zz_aret (C : zc X E cc nL own rm) {post : Option Value → (Nat → Nat) → zH → Prop} {n : String} (Z : zr X E (some (.object n)) kc ks post) {v : Value} (hd : decode cc pc = .ok (.areturn, 1)) (hv : v = .null ∨ ∃ a, v = .ref a) (hp : post (some v) ad h) : zz X E nL ad kc ks pc L [v] h := by
  obtain ⟨p, l, e, R, s, m, args, below, meth, c, Q, A⟩ := X
  obtain ⟨⟨hx, hb, hml, hown, hts⟩, ⟨hK, hN⟩, hA, hR⟩ := C
  obtain ⟨hr, hlk, rfl⟩ := Z
  exact fun H locs ls a1 a2 a3 a5 => W.aret hx hb hr (Or.inl ⟨n, rfl⟩) hv (zr_end (p := p) (l := l) (e := e) (R := R) (m := m) (below := below) (meth := meth) (c := c) (Q := fun _ => True) hp a1 a2 a3) a3.2.2 hd hlk
/-- behind a call -/
theorem zz_after {p : Program} {l : Launch} {e : Env} {R : Room} {s : State} {m : MethodId} {args : Array Value} {below : List Frame} {meth : Method} {c : Code} {Q : State → Prop} {A : Nat → Prop} {H : Heap} {locs : List Loc} {ls : Array Slot} {st0 rest : List Value} {mc ms : Nat} {post : Option Value → (Nat → Nat) → zH → Prop} {av : Array Value}
    (hr : va_Run p l e R s m args below meth c H locs kc ks mc ms (F0 m pc ls st0) rest (zQc E (va_A (zw ad h) H.size) post av) (va_A (zw ad h) H.size)) (hA : ∀ q, s.heap.size ≤ q → A q) (a2 : va_D A (zw ad h)) (a3 : va_S A s.heap H locs)
    (kk : ∀ (r : Option Value) (ad' : Nat → Nat) (h' : zH), post r ad' h' → ∀ (H1 : Heap) (locs1 : List Loc), va_P E.1 zCl (zw ad' h') H1 → va_D A (zw ad' h') → va_S A s.heap H1 locs1 → W p l e R s m args below meth c H1 locs1 (kc + mc) (ks + ms) Q (F0 m (pc + 3) ls (r.toList ++ rest))) : W p l e R s m args below meth c H locs kc ks Q (F0 m pc ls st0) := by
  have hf : ∀ q, va_A (zw ad h) H.size q → A q := by
    rintro q (⟨i, x, hi⟩ | hq)
    · exact a2.2 i _ hi
    · exact hA q (Nat.le_trans a3.1 hq)
  intro T hT X
  obtain ⟨v, st₀, t, T', Lc, h0, X', hL, e1, e2, ⟨⟨r, ad', h', hv, hp, b1, b3⟩, hz, hk⟩, go⟩ := hr T hT X
  cases hv
  rw [h0] at hz hk
  obtain ⟨t2, c1, c2⟩ := kk v ad' h' hp T'.heap (locs ++ Lc) (by rw [e1]; exact b1) (b3.weaken (fun _ _ _ q => hf _ q))
    ⟨Nat.le_trans a3.1 (by rw [e1]; exact hz), fun q h1 h2 => by rw [e1, hk q (Nat.lt_of_lt_of_le h1 a3.1) (fun z => h2 (hf q z))]; exact a3.2.1 q h1 h2, fun q hq => by
      rcases List.mem_append.mp hq with h | h
      · exact a3.2.2 q h
      · exact hf _ (hL q h)⟩ T' rfl X'
  exact ⟨t2, go t2 c1, c2⟩
theorem zz_pre {s U : State} {H : Heap} {A : Nat → Prop} (hK : zK E s) (a1 : va_P E.1 zCl (zw ad h) H) (a2 : va_D A (zw ad h)) (hU : U.heap = H) (hW : s.WarmedH U.vm) : zPre E ad h H.size U := ⟨by rw [hU], by rw [hU]; exact a1, hK.warm hW, a2.weaken (fun _ _ _ _ => trivial)⟩
theorem zz_blind {av : List Value} {sz : Nat} : FrameBlind (va_Pc av (zPre E ad h sz)) := fun a U g mk q => by
  obtain ⟨q0, q1, q2, q3, q4⟩ := q
  exact ⟨q0, q1, q2, ⟨va_K.moved (u := U) (U := U.calling g mk a) (Vm.Alike.refl U.vm) q3.1, fun w hw => va_Nw.same (u := U) (U := U.calling g mk a) rfl rfl (q3.2 w hw)⟩, q4⟩
/-- a method's words -/
def zy (y : MethodName) (b : ByteArray) (nL : Nat) (ret : Option FieldType) (n : Nat) : Prop := Cond.code y b nL ret ∈ zt ∧ Cond.instanceMethod y ∈ zt ∧ Cond.selects y.cls y y ∈ zt ∧ Cond.initialized y.cls ∈ zt ∧ y.cls ≠ "java/lang/invoke/MethodHandle" ∧ y.cls ≠ "java/lang/invoke/VarHandle" ∧ (parseMethodDescriptor y.desc).map (fun d => d.parameters.length) = some n
def zys (y : MethodName) (b : ByteArray) (nL : Nat) (ret : Option FieldType) (n : Nat) : Prop := Cond.code y b nL ret ∈ zt ∧ Cond.static y ∈ zt ∧ Cond.initialized y.cls ∈ zt ∧ y.cls ≠ "java/lang/invoke/MethodHandle" ∧ y.cls ≠ "java/lang/invoke/VarHandle" ∧ (parseMethodDescriptor y.desc).map (fun d => d.parameters.length) = some n
theorem zz_callV (C : zc X E cc nL own rm) {y : MethodName} {b : ByteArray} {maxL n index kb ci N : Nat} {ret : Option FieldType} {rmc : Room} {post : Option Value → (Nat → Nat) → zH → Prop} {As rest : List Value} {fs : List Value} {T : u_T} (hd : decode cc pc = .ok (.invokevirtual index, 3)) (hl : Cond.methodLink own index y ∈ zt) (hY : zy y b maxL ret n) (hM : zMet X.2.1 y b maxL ret rmc E (.ref (ad kb) :: As) ad h post) (hroom : rmc.frames + 1 ≤ rm.frames ∧ 8 + (maxL + 11) + rmc.locals ≤ rm.locals) (hcells : kc + rmc.cells ≤ rm.cells ∧ ks + rmc.slots ≤ rm.slots) (hrecv : zg h kb = some (.inr (ci, fs))) (hc : zCl[ci]? = some (y.cls, T, N)) (hst : st = As.reverse ++ .ref (ad kb) :: rest) (hn : As.length = n) (hwd : (rest.map fun v => v.category).sum ≤ 8)
    (kk : ∀ (r : Option Value) (ad' : Nat → Nat) (h' : zH), post r ad' h' → zz X E nL ad' (kc + rmc.cells) (ks + rmc.slots) (pc + 3) L (r.toList ++ rest) h') : zz X E nL ad kc ks pc L st h := by
  obtain ⟨p, l, e, R, s, m, args, below, meth, c, Q, A⟩ := X
  obtain ⟨⟨hx, hb, hml, hown, hts⟩, ⟨hK, hN⟩, hA, hR⟩ := C
  subst hR
  obtain ⟨y1, y2, y3, y4, y5, y6, y7⟩ := hY
  obtain ⟨i, hi, -, -⟩ := zg_at hrecv
  have hG : GoodIn zt (wsV own index y.cls y (Cond.code y b maxL ret :: zt)) := z_in fun w hw => by
    simp only [wsV, List.cons_append, List.nil_append, List.mem_cons] at hw
    rcases hw with rfl | rfl | rfl | rfl | rfl | hw <;> assumption
  intro H locs ls a1 a2 a3 a5
  exact zz_after (va_runV (As := As) (rest := rest) ⟨hx, hb, hml, hown, hts⟩ (hM H.size) (cwV n hts hG rfl rfl rfl ⟨rfl, y5, y6, y7⟩ hroom) ⟨zz_blind, va_recv hK a1 hc (zw_at hi), fun U hU hW => ⟨rfl, zz_pre ⟨hK, hN⟩ a1 a2 hU hW⟩⟩ rfl hn a5.1 hst (lv_room hwd) hd hcells) hA a2 a3 fun r ad' h' hp H1 locs1 b1 b2 b3 => kk r ad' h' hp H1 locs1 ls b1 b2 b3 a5
/-- invokestatic: the callee's class is made already -/
theorem zz_callS (C : zc X E cc nL own rm) {y : MethodName} {b : ByteArray} {maxL n index : Nat} {ret : Option FieldType} {rmc : Room} {post : Option Value → (Nat → Nat) → zH → Prop} {As rest : List Value} (hd : decode cc pc = .ok (.invokestatic index, 3)) (hl : Cond.methodLink own index y ∈ zt) (hY : zys y b maxL ret n) (hM : zMet X.2.1 y b maxL ret rmc E As ad h post) (hroom : rmc.frames + 1 ≤ rm.frames ∧ 8 + (maxL + 11) + rmc.locals ≤ rm.locals) (hcells : kc + rmc.cells ≤ rm.cells ∧ ks + rmc.slots ≤ rm.slots) (hst : st = As.reverse ++ rest) (hn : As.length = n) (hwd : (rest.map fun v => v.category).sum ≤ 8)
    (kk : ∀ (r : Option Value) (ad' : Nat → Nat) (h' : zH), post r ad' h' → zz X E nL ad' (kc + rmc.cells) (ks + rmc.slots) (pc + 3) L (r.toList ++ rest) h') : zz X E nL ad kc ks pc L st h := by
  obtain ⟨p, l, e, R, s, m, args, below, meth, c, Q, A⟩ := X
  obtain ⟨⟨hx, hb, hml, hown, hts⟩, ⟨hK, hN⟩, hA, hR⟩ := C
  subst hR
  obtain ⟨y1, y3, y4, y5, y6, y7⟩ := hY
  have hG : GoodIn zt (Cond.code y b maxL ret :: zt) := z_in fun w hw => by
    rcases List.mem_cons.mp hw with rfl | hw <;> assumption
  intro H locs ls a1 a2 a3 a5
  exact zz_after (va_runS (As := As) (rest := rest) ⟨hx, hb, hml, hown, hts⟩ (hM H.size) ⟨callB_of n hts hG rfl rfl rfl (hts _ y4) (hts _ hl) ⟨y5, y6, y7⟩ hroom, hts _ y3⟩ ⟨zz_blind, fun U hU hW => ⟨rfl, zz_pre ⟨hK, hN⟩ a1 a2 hU hW⟩⟩ rfl hn a5.1 hst (lv_room hwd) hd hcells) hA a2 a3 fun r ad' h' hp H1 locs1 b1 b2 b3 => kk r ad' h' hp H1 locs1 ls b1 b2 b3 a5
end ZZ
