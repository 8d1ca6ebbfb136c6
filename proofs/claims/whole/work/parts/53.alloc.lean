/-! MORE THAT MAKES CELLS -/
section ALLOC2
variable {X : zX} {E : zE} {cc : ByteArray} {nL : Nat} {own : String} {rm : Room} {ad : Nat → Nat} {kc ks pc : Nat} {L : List (Option Value)} {st : List Value} {h : zH} {t : Nat}
theorem zz_newaB (C : zc X E cc nL own rm) (kn : Nat) {n : Int32} {N : Nat} (hd : decode cc pc = .ok (.newarray .boolean, 2)) (hn : ¬ n < 0) (hN : n.toNatClampNeg = N) (hb : N * 1 ≤ 536870912) (hkn : zg h kn = none) (hcells : kc + 1 ≤ rm.cells) (hslots : ks + N ≤ rm.slots)
    (kk : ∀ (ad' : Nat → Nat) (h' : zH), (∀ k, k ≠ kn → ad' k = ad k) → zg h' kn = some (.inl (E.2 1, N, .inl (fun _ => 0))) → (∀ k, k ≠ kn → zg h' k = zg h k) → zz X E nL ad' (kc + 1) (ks + N) (pc + 2) L (.ref (ad' kn) :: st) h') : zz X E nL ad kc ks pc L (.int n :: st) h := by
  obtain ⟨p, l, e, R, s, m, args, below, meth, c, Q, A⟩ := X
  obtain ⟨⟨hx, hbb, hml, hown, hts⟩, ⟨hK, hNn⟩, hA, hR⟩ := C
  subst hR
  intro H locs ls a1 a2 a3 a5
  refine va_newa (D := E.1) (atype := .boolean) (ty := .boolean) (a0 := (N, .inl (fun _ => 0))) hx hbb (hts _ ac_boolean) rfl hK a1 a2 a3 hA (fun cA => rfl) hn hN hb hcells hslots hd fun q cA H1 k1 b1 b2 b3 => ?_
  have e : cA = E.2 1 := by
    have r1 := (k1.2 5 (cA, .boolean) (by simp [zT])).2
    have r2 := (hK.2 1 (E.2 1, .boolean) rfl).2
    exact Option.some.inj (r1.symm.trans r2)
  subst e
  rw [← zw_new hkn] at b1 b2
  have K := kk (va_up ad kn q) _ (fun k hk => va_up_ne _ _ hk) (zg_new hkn).1 (zg_new hkn).2 H1 locs ls b1 b2 b3 a5
  rw [va_up_self] at K
  exact K
theorem zz_newaL (C : zc X E cc nL own rm) (kn : Nat) {n : Int32} {N : Nat} (hd : decode cc pc = .ok (.newarray .long, 2)) (hn : ¬ n < 0) (hN : n.toNatClampNeg = N) (hb : N * 8 ≤ 536870912) (hkn : zg h kn = none) (hcells : kc + 1 ≤ rm.cells) (hslots : ks + N ≤ rm.slots)
    (kk : ∀ (ad' : Nat → Nat) (h' : zH), (∀ k, k ≠ kn → ad' k = ad k) → zg h' kn = some (.inl (E.2 2, N, .inr (.inl (fun _ => 0)))) → (∀ k, k ≠ kn → zg h' k = zg h k) → zz X E nL ad' (kc + 1) (ks + N) (pc + 2) L (.ref (ad' kn) :: st) h') : zz X E nL ad kc ks pc L (.int n :: st) h := by
  obtain ⟨p, l, e, R, s, m, args, below, meth, c, Q, A⟩ := X
  obtain ⟨⟨hx, hbb, hml, hown, hts⟩, ⟨hK, hNn⟩, hA, hR⟩ := C
  subst hR
  intro H locs ls a1 a2 a3 a5
  refine va_newa (D := E.1) (atype := .long) (ty := .long) (a0 := (N, .inr (.inl (fun _ => 0)))) hx hbb (hts _ ac_long) rfl hK a1 a2 a3 hA (fun cA => rfl) hn hN hb hcells hslots hd fun q cA H1 k1 b1 b2 b3 => ?_
  have e : cA = E.2 2 := by
    have r1 := (k1.2 5 (cA, .long) (by simp [zT])).2
    have r2 := (hK.2 2 (E.2 2, .long) rfl).2
    exact Option.some.inj (r1.symm.trans r2)
  subst e
  rw [← zw_new hkn] at b1 b2
  have K := kk (va_up ad kn q) _ (fun k hk => va_up_ne _ _ hk) (zg_new hkn).1 (zg_new hkn).2 H1 locs ls b1 b2 b3 a5
  rw [va_up_self] at K
  exact K
theorem zz_newq (C : zc X E cc nL own rm) (S : zs X t) (kn : Nat) {n : Int32} {N index : Nat} (hd : decode cc pc = .ok (.anewarray index, 3)) (hcl : Cond.classLink own index "BranchTrees$Node" ∈ zt) (hn : ¬ n < 0) (hN : n.toNatClampNeg = N) (hb : N * 4 ≤ 536870912) (hkn : zg h kn = none) (hcells : kc + 1 ≤ rm.cells) (hslots : ks + N ≤ rm.slots)
    (kk : ∀ (ad' : Nat → Nat) (h' : zH), (∀ k, k ≠ kn → ad' k = ad k) → zg h' kn = some (.inl (E.2 3, N, .inr (.inr (.inr (.inr (fun _ => none)))))) → (∀ k, k ≠ kn → zg h' k = zg h k) → zz X E nL ad' (kc + 1) (ks + N) (pc + 3) L (.ref (ad' kn) :: st) h') : zz X E nL ad kc ks pc L (.int n :: st) h := by
  obtain ⟨p, l, e, R, s, m, args, below, meth, c, Q, A⟩ := X
  obtain ⟨⟨hx, hbb, hml, hown, hts⟩, ⟨hK, hNn⟩, hA, hR⟩ := C
  subst hR
  intro H locs ls a1 a2 a3 a5
  refine va_newq (D := E.1) (C := "BranchTrees$Node") hx hbb hown (hts _ hcl) S.2.2.1 hK a1 a2 a3 hA hn hN hb hcells hslots hd fun q cA H1 k1 b1 b2 b3 => ?_
  have e : cA = E.2 3 := by
    obtain ⟨-, -, -, -, -, r1⟩ := (k1.2 5 (cA, .object "BranchTrees$Node") (by simp [zT])).2
    obtain ⟨-, -, -, -, -, r2⟩ := (hK.2 3 (E.2 3, .object "BranchTrees$Node") rfl).2
    exact Option.some.inj (r1.symm.trans r2)
  subst e
  rw [← zw_new hkn] at b1 b2
  have K := kk (va_up ad kn q) _ (fun k hk => va_up_ne _ _ hk) (zg_new hkn).1 (zg_new hkn).2 H1 locs ls b1 b2 b3 a5
  rw [va_up_self] at K
  exact K
/-- new int[16][8]: the outer array at key 8, the rows at 24 .. 39 -/
def mnT (E : zE) (ad : Nat → Nat) : zH := (8, .inl (E.2 4, 16, .inr (.inr (.inr (.inr (fun r => if r < 16 then some (ad (24 + r)) else none)))))) :: (List.range 16).map (fun i => (24 + i, .inl (E.2 0, 8, .inl (fun _ => 0))))
theorem zz_mna (C : zc X E cc nL own rm) (S : zs X t) {index : Nat} (hd : decode cc pc = .ok (.multianewarray index 2, 4)) (hcl : Cond.classLink own index "[[I" ∈ zt) (h8 : zg h 8 = none) (h24 : ∀ k, 24 ≤ k → k < 40 → zg h k = none) (hcells : kc + 17 ≤ rm.cells) (hslots : ks + 144 ≤ rm.slots)
    (kk : ∀ (ad' : Nat → Nat), (∀ k, k ≠ 8 → ¬ (24 ≤ k ∧ k < 40) → ad' k = ad k) → zz X E nL ad' (kc + 17) (ks + 144) (pc + 4) L (.ref (ad' 8) :: st) (h ++ mnT E ad')) : zz X E nL ad kc ks pc L (.int 8 :: .int 16 :: st) h := by
  obtain ⟨p, l, e, R, s, m, args, below, meth, c, Q, A⟩ := X
  obtain ⟨⟨hx, hbb, hml, hown, hts⟩, ⟨hK, hNn⟩, hA, hR⟩ := C
  subst hR
  intro H locs ls a1 a2 a3 a5
  refine va_mna (D := E.1) (X := zw ad h) (L := []) (f := fun _ => .inl (E.2 0, 8, .inl (fun _ => 0))) (ty := .int) (cy := E.2 0) (N' := 16) (K' := 8) (z := (8, .inl (fun _ => 0))) hx hbb hown (hts _ hcl) S.2.2.2 (hts _ ac_int) (hK.2 0 (E.2 0, .int) rfl).2 hK (by rw [show va_pl [] (fun _ => (.inl (E.2 0, 8, .inl (fun _ => 0)) : va_E)) = [] from rfl, List.append_nil]; exact a1) (by rw [show va_pl [] (fun _ => (.inl (E.2 0, 8, .inl (fun _ => 0)) : va_E)) = [] from rfl, List.append_nil]; exact a2) a3 hA (by decide) (by decide) (by decide) (by decide) (by decide) (by decide) (by decide) rfl rfl hcells hslots (fun c => by show ({ cls := c, slots := Array.replicate 8 (.int 0), vm := .none } : Cell) = _; rw [arrV_new]; rfl) hd fun q r cA H1 inj hnl k1 b1 b2 b3 => ?_
  have e : cA = E.2 4 := by
    have r1 := (k1.2 5 (cA, .array .int) (by simp [zT])).2
    have r2 := (hK.2 4 (E.2 4, .array .int) rfl).2
    exact Option.some.inj (r1.symm.trans r2)
  subst e
  have K := kk (fun k => if k = 8 then q else if 24 ≤ k ∧ k < 40 then r (k - 24) else ad k) (fun k g1 g2 => by simp only [if_neg g1, if_neg g2])
  have ez : zw (fun k => if k = 8 then q else if 24 ≤ k ∧ k < 40 then r (k - 24) else ad k) (h ++ mnT E (fun k => if k = 8 then q else if 24 ≤ k ∧ k < 40 then r (k - 24) else ad k)) = (zw ad h ++ [(q, .inl (E.2 4, 16, .inr (.inr (.inr (.inr (fun i => if i < 16 then some (r i) else none))))))]) ++ va_pl ([] ++ (List.range 16).map r) (vr_up (fun _ => .inl (E.2 0, 8, .inl (fun _ => 0))) ((List.range 16).map r) (.inl (E.2 0, (8, .inl (fun _ => 0))))) := by
    unfold zw mnT va_pl
    rw [List.map_append, List.append_assoc]
    congr 1
    · refine List.map_congr_left fun p hp => ?_
      have n1 : p.1 ≠ 8 := zg_none h8 p hp
      have n2 : ¬ (24 ≤ p.1 ∧ p.1 < 40) := fun z => zg_none (h24 p.1 z.1 z.2) p hp rfl
      simp only [if_neg n1, if_neg n2]
    · rw [List.map_cons, List.singleton_append]
      congr 1
      · have : (fun i => if i < 16 then some (if 24 + i = 8 then q else if 24 ≤ 24 + i ∧ 24 + i < 40 then r (24 + i - 24) else ad (24 + i)) else none) = (fun i => if i < 16 then some (r i) else none) := by
          funext i
          by_cases z : i < 16
          · rw [if_pos z, if_pos z, if_neg (by omega), if_pos (by omega), show 24 + i - 24 = i by omega]
          · rw [if_neg z, if_neg z]
        simp only [this, if_true]
      · rw [List.nil_append, List.map_map, List.map_map]
        refine List.map_congr_left fun i hi => ?_
        have hi := List.mem_range.mp hi
        show ((if 24 + i = 8 then q else if 24 ≤ 24 + i ∧ 24 + i < 40 then r (24 + i - 24) else ad (24 + i)), _) = (r i, vr_up _ _ _ (r i))
        rw [if_neg (by omega), if_pos (by omega), show 24 + i - 24 = i by omega, vr_up_in (List.mem_map.mpr ⟨i, List.mem_range.mpr hi, rfl⟩)]
  have K2 := K H1 locs ls (by rw [ez]; exact b1) (by rw [ez]; exact b2) b3 a5
  simp only [if_true] at K2
  exact K2
end ALLOC2
/-! A HEAP BY A LIST of keys and kinds: an array of zeros (its class, its length), or an object (its class, its fields: a value, or a key's address) -/
abbrev kC : Type := (Nat × Nat) ⊕ (Nat × List (Value ⊕ Nat))
def kf (ad : Nat → Nat) : Value ⊕ Nat → Value
  | .inl v => v
  | .inr k => .ref (ad k)
def kE (E : zE) (ad : Nat → Nat) : kC → va_E
  | .inl (2, n) => .inl (E.2 2, n, .inr (.inl (fun _ => 0)))
  | .inl (3, n) => .inl (E.2 3, n, .inr (.inr (.inr (.inr (fun _ => none)))))
  | .inl (4, n) => .inl (E.2 4, n, .inr (.inr (.inr (.inr (fun r => if r < n then some (ad (24 + r)) else none)))))
  | .inl (t, n) => .inl (E.2 t, n, .inl (fun _ => 0))
  | .inr (ci, fs) => .inr (ci, fs.map (kf ad))
def lk : List (Nat × kC) → Nat → Option kC
  | [], _ => none
  | q :: t, k => if k = q.1 then some q.2 else lk t k
def kR (E : zE) (ad : Nat → Nat) (S : List (Nat × kC)) (h : zH) : Prop := ∀ k, zg h k = (lk S k).map (kE E ad)
/-- which keys a kind names -/
def kn1 (Z : Nat → Bool) : kC → Bool
  | .inl (4, n) => (List.range n).all (fun r => !Z (24 + r))
  | .inl _ => true
  | .inr (_, fs) => fs.all (fun f => match f with | .inl _ => true | .inr k => !Z k)
def kN (Z : Nat → Bool) (S : List (Nat × kC)) : Bool := S.all (fun q => kn1 Z q.2)
theorem kE_ag {E : zE} {ad ad' : Nat → Nat} {Z : Nat → Bool} (h : ∀ k, Z k = false → ad' k = ad k) : ∀ c : kC, kn1 Z c = true → kE E ad' c = kE E ad c
  | .inl (0, n), _ => rfl
  | .inl (1, n), _ => rfl
  | .inl (2, n), _ => rfl
  | .inl (3, n), _ => rfl
  | .inl (4, n), hc => by
    have e : (fun r => if r < n then some (ad' (24 + r)) else none) = (fun r => if r < n then some (ad (24 + r)) else none) := by
      funext r
      by_cases q : r < n
      · rw [if_pos q, if_pos q]
        have := List.all_eq_true.mp hc r (List.mem_range.mpr q)
        rw [h _ (by simpa using this)]
      · rw [if_neg q, if_neg q]
    simp only [kE, e]
  | .inl (n' + 5, n), _ => rfl
  | .inr (ci, fs), hc => by
    have e : fs.map (kf ad') = fs.map (kf ad) := by
      refine List.map_congr_left fun f hf => ?_
      have := List.all_eq_true.mp hc f hf
      cases f with
      | inl v => rfl
      | inr k => show Value.ref (ad' k) = .ref (ad k); rw [h k (by simpa using this)]
    simp only [kE, e]
theorem lk_mem : ∀ {S : List (Nat × kC)} {k : Nat} {c : kC}, lk S k = some c → (k, c) ∈ S
  | [], k, c, h => by cases h
  | q :: t, k, c, h => by
    unfold lk at h
    by_cases e : k = q.1
    · rw [if_pos e] at h; cases h; subst e; exact List.mem_cons_self
    · rw [if_neg e] at h; exact List.mem_cons_of_mem _ (lk_mem h)
theorem lk_app : ∀ (S T : List (Nat × kC)) (k : Nat), lk (S ++ T) k = match lk S k with | some c => some c | none => lk T k
  | [], T, k => rfl
  | q :: t, T, k => by
    show (if k = q.1 then some q.2 else lk (t ++ T) k) = match (if k = q.1 then some q.2 else lk t k) with | some c => some c | none => lk T k
    by_cases e : k = q.1
    · rw [if_pos e, if_pos e]
    · rw [if_neg e, if_neg e]; exact lk_app t T k
theorem zg_app : ∀ (h t : zH) (k : Nat), zg (h ++ t) k = match zg h k with | some c => some c | none => zg t k
  | [], t, k => rfl
  | q :: h, t, k => by
    show (if k = q.1 then some q.2 else zg (h ++ t) k) = match (if k = q.1 then some q.2 else zg h k) with | some c => some c | none => zg t k
    by_cases e : k = q.1
    · rw [if_pos e, if_pos e]
    · rw [if_neg e, if_neg e]; exact zg_app h t k
theorem kR.mv {E : zE} {ad ad' : Nat → Nat} {Z : Nat → Bool} {S : List (Nat × kC)} {h : zH} (hS : kR E ad S h) (hZ : kN Z S = true) (hag : ∀ k, Z k = false → ad' k = ad k) : kR E ad' S h := by
  intro k
  rw [hS k]
  cases e : lk S k with
  | none => rfl
  | some c =>
    have := List.all_eq_true.mp hZ _ (lk_mem e)
    show some _ = some _
    rw [kE_ag hag c this]
theorem kR.one {E : zE} {ad ad' : Nat → Nat} {S : List (Nat × kC)} {h h' : zH} {kn : Nat} {c : kC} {x : va_E} (hS : kR E ad S h) (h1 : lk S kn = none) (h2 : kN (fun k => k == kn) S = true) (hag : ∀ k, k ≠ kn → ad' k = ad k) (e : zg h' kn = some x) (f : ∀ k, k ≠ kn → zg h' k = zg h k) (hx : x = kE E ad' c) : kR E ad' (S ++ [(kn, c)]) h' := by
  have hS' := hS.mv (ad' := ad') h2 (fun k hk => hag k (by simpa using hk))
  intro k
  rw [lk_app]
  by_cases q : k = kn
  · subst q; rw [e, h1, hx]; show _ = Option.map _ (if k = k then some c else none); rw [if_pos rfl]; rfl
  · rw [f k q, hS' k]
    cases lk S k with
    | some c' => rfl
    | none => show none = Option.map _ (if k = kn then some c else none); rw [if_neg q]; rfl
def kset (S : List (Nat × kC)) (k : Nat) (c : kC) : List (Nat × kC) := S.map (fun q => if q.1 = k then (k, c) else q)
theorem lk_set : ∀ (S : List (Nat × kC)) (k : Nat) (c : kC) (j : Nat), lk (kset S k c) j = if j = k then (lk S k).map (fun _ => c) else lk S j
  | [], k, c, j => by
    show none = if j = k then (none : Option kC).map _ else none
    by_cases e : j = k
    · rw [if_pos e]; rfl
    · rw [if_neg e]
  | q :: t, k, c, j => by
    have ih := lk_set t k c j
    show lk ((if q.1 = k then (k, c) else q) :: kset t k c) j = _
    by_cases e1 : q.1 = k
    · rw [if_pos e1]
      show (if j = k then some c else lk (kset t k c) j) = if j = k then Option.map (fun _ => c) (if k = q.1 then some q.2 else lk t k) else (if j = q.1 then some q.2 else lk t j)
      by_cases e : j = k
      · rw [if_pos e, if_pos e, if_pos e1.symm]; rfl
      · rw [if_neg e, if_neg e, ih, if_neg e, if_neg (by omega)]
    · rw [if_neg e1]
      show (if j = q.1 then some q.2 else lk (kset t k c) j) = if j = k then Option.map (fun _ => c) (if k = q.1 then some q.2 else lk t k) else (if j = q.1 then some q.2 else lk t j)
      by_cases e : j = k
      · rw [if_pos e, if_neg (by omega), ih, if_pos e, if_neg (fun z => e1 z.symm)]
      · rw [if_neg e, ih, if_neg e]
theorem kR.put {E : zE} {ad : Nat → Nat} {S : List (Nat × kC)} {h h' : zH} {k : Nat} {c c' : kC} {x : va_E} (hS : kR E ad S h) (h1 : lk S k = some c) (e : zg h' k = some x) (f : ∀ i, i ≠ k → zg h' i = zg h i) (hx : x = kE E ad c') : kR E ad (kset S k c') h' := by
  intro i
  rw [lk_set]
  by_cases q : i = k
  · subst q; rw [e, hx, if_pos rfl, h1]; rfl
  · rw [f i q, hS i, if_neg q]
theorem lk_ge : ∀ {S : List (Nat × kC)} {k : Nat}, S.all (fun q => q.1 < 64) = true → 64 ≤ k → lk S k = none
  | [], k, _, _ => rfl
  | q :: t, k, h, hk => by
    simp only [List.all_cons, Bool.and_eq_true, decide_eq_true_eq] at h
    unfold lk
    rw [if_neg (by omega)]
    exact lk_ge h.2 hk
theorem zg_kT {E : zE} {ad : Nat → Nat} : ∀ (T : List (Nat × kC)) (k : Nat), zg (T.map (fun q => (q.1, kE E ad q.2))) k = (lk T k).map (kE E ad)
  | [], k => rfl
  | q :: t, k => by
    show (if k = q.1 then some (kE E ad q.2) else zg (t.map _) k) = Option.map _ (if k = q.1 then some q.2 else lk t k)
    by_cases e : k = q.1
    · rw [if_pos e, if_pos e]; rfl
    · rw [if_neg e, if_neg e]; exact zg_kT t k
def mnS : List (Nat × kC) := (8, .inl (4, 16)) :: (List.range 16).map (fun i => (24 + i, .inl (0, 8)))
theorem kR.mna {E : zE} {ad ad' : Nat → Nat} {S : List (Nat × kC)} {h : zH} (hS : kR E ad S h) (h2 : kN (fun k => k == 8 || (24 ≤ k && k < 40)) S = true) (hag : ∀ k, k ≠ 8 → ¬ (24 ≤ k ∧ k < 40) → ad' k = ad k) : kR E ad' (S ++ mnS) (h ++ mnT E ad') := by
  have hS' := hS.mv (ad' := ad') h2 (fun k hk => hag k (by intro z; subst z; simp at hk) (by intro z; simp [z.1, z.2] at hk))
  intro k
  have e : mnT E ad' = mnS.map (fun q => (q.1, kE E ad' q.2)) := rfl
  rw [lk_app, zg_app, hS' k, e, zg_kT]
  cases lk S k with
  | some c => rfl
  | none => rfl
