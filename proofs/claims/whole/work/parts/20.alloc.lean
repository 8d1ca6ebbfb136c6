/-! WHAT MAKES CELLS -/
theorem zg_new {h : zH} {k : Nat} {x : va_E} (hk : zg h k = none) : zg (h ++ [(k, x)]) k = some x ∧ ∀ j, j ≠ k → zg (h ++ [(k, x)]) j = zg h j := by
  induction h with
  | nil => exact ⟨by simp [zg], fun j hj => by simp [zg, hj]⟩
  | cons q t ih =>
    by_cases e : k = q.1
    · simp [zg, e] at hk
    · have hk' : zg t k = none := by simpa [zg, e] using hk
      obtain ⟨h1, h2⟩ := ih hk'
      refine ⟨by simpa [zg, e] using h1, fun j hj => ?_⟩
      by_cases e2 : j = q.1
      · simp [zg, e2]
      · simpa [zg, e2] using h2 j hj
theorem zg_none {h : zH} {k : Nat} (hk : zg h k = none) : ∀ q ∈ h, q.1 ≠ k := by
  induction h with
  | nil => intro q hq; cases hq
  | cons p t ih =>
    by_cases e : k = p.1
    · simp [zg, e] at hk
    · have hk' : zg t k = none := by simpa [zg, e] using hk
      intro q hq
      rcases List.mem_cons.mp hq with rfl | hq
      · exact fun x => e x.symm
      · exact ih hk' q hq
theorem zw_new {ad : Nat → Nat} {h : zH} {k q : Nat} {x : va_E} (hk : zg h k = none) : zw (va_up ad k q) (h ++ [(k, x)]) = zw ad h ++ [(q, x)] := by
  unfold zw
  rw [List.map_append]
  congr 1
  · exact List.map_congr_left fun p hp => by rw [va_up_ne _ _ (zg_none hk p hp)]
  · simp [va_up_self]
section ALLOC
variable {X : zX} {E : zE} {cc : ByteArray} {nL : Nat} {own : String} {rm : Room} {ad : Nat → Nat} {kc ks pc : Nat} {L : List (Option Value)} {st : List Value} {h : zH}
theorem zz_new (C : zc X E cc nL own rm) {index ci N : Nat} (kn : Nat) {Cn : String} {T : u_T} {ty : Nat → FieldType} {fs : List Value} (hd : decode cc pc = .ok (.new index, 3)) (hcl : Cond.classLink own index Cn ∈ zt) (hinst : Cond.instantiable Cn N ∈ zt) (hini : Cond.initialized Cn ∈ zt) (hin : ∀ w ∈ u_ws Cn T N, w ∈ zt) (hty : ∀ k, k < N → parseFieldDescriptor (T k).2.2.1 = some (ty k)) (hc : zCl[ci]? = some (Cn, T, N)) (hfs : ∀ j, j < N → defaultValue (ty j) = vp_V fs j) (hkn : zg h kn = none) (hcells : kc + 1 ≤ rm.cells) (hslots : ks + N ≤ rm.slots)
    (kk : ∀ (ad' : Nat → Nat) (h' : zH), (∀ k, k ≠ kn → ad' k = ad k) → zg h' kn = some (.inr (ci, fs)) → (∀ k, k ≠ kn → zg h' k = zg h k) → zz X E nL ad' (kc + 1) (ks + N) (pc + 3) L (.ref (ad' kn) :: st) h') : zz X E nL ad kc ks pc L st h := by
  obtain ⟨p, l, e, R, s, m, args, below, meth, c, Q, A⟩ := X
  obtain ⟨⟨hx, hb, hml, hown, hts⟩, ⟨hK, hN⟩, hA, hR⟩ := C
  subst hR
  intro H locs ls a1 a2 a3 a5
  refine va_new (D := E.1) hx hb hts hin ty hty hown (hts _ hcl) (hts _ hinst) (hts _ hini) hK a1 a2 a3 hA hc hfs hcells hslots hd fun q H1 b1 b2 b3 => ?_
  rw [← zw_new hkn] at b1 b2
  have K := kk (va_up ad kn q) _ (fun k hk => va_up_ne _ _ hk) (zg_new hkn).1 (zg_new hkn).2 H1 locs ls b1 b2 b3 a5
  rw [va_up_self] at K
  exact K
theorem zz_newa (C : zc X E cc nL own rm) (kn : Nat) {n : Int32} {N : Nat} (hd : decode cc pc = .ok (.newarray .int, 2)) (hn : ¬ n < 0) (hN : n.toNatClampNeg = N) (hb : N * 4 ≤ 536870912) (hkn : zg h kn = none) (hcells : kc + 1 ≤ rm.cells) (hslots : ks + N ≤ rm.slots)
    (kk : ∀ (ad' : Nat → Nat) (h' : zH), (∀ k, k ≠ kn → ad' k = ad k) → zg h' kn = some (.inl (E.2 0, N, .inl (fun _ => 0))) → (∀ k, k ≠ kn → zg h' k = zg h k) → zz X E nL ad' (kc + 1) (ks + N) (pc + 2) L (.ref (ad' kn) :: st) h') : zz X E nL ad kc ks pc L (.int n :: st) h := by
  obtain ⟨p, l, e, R, s, m, args, below, meth, c, Q, A⟩ := X
  obtain ⟨⟨hx, hbb, hml, hown, hts⟩, ⟨hK, hNn⟩, hA, hR⟩ := C
  subst hR
  intro H locs ls a1 a2 a3 a5
  refine va_newa (D := E.1) (atype := .int) (ty := .int) (a0 := (N, .inl (fun _ => 0))) hx hbb (hts _ ac_int) rfl hK a1 a2 a3 hA (fun cA => rfl) hn hN hb hcells hslots hd fun q cA H1 k1 b1 b2 b3 => ?_
  have e : cA = E.2 0 := by
    have r1 := (k1.2 5 (cA, .int) (by simp [zT])).2
    have r2 := (hK.2 0 (E.2 0, .int) rfl).2
    exact Option.some.inj (r1.symm.trans r2)
  subst e
  rw [← zw_new hkn] at b1 b2
  have K := kk (va_up ad kn q) _ (fun k hk => va_up_ne _ _ hk) (zg_new hkn).1 (zg_new hkn).2 H1 locs ls b1 b2 b3 a5
  rw [va_up_self] at K
  exact K
/-- a walk in a constructor -/
def zi (X : zX) (nm : String) : Prop := X.2.2.2.2.2.2.2.2.1.name = nm
/-- of a final field, in its own constructor -/
def zff (own : String) (index ci j : Nat) (ty : FieldType) : Prop := ∃ (T : u_T) (N : Nat) (ty0 : Nat → FieldType), zCl[ci]? = some (own, T, N) ∧ j < N ∧ (∀ w ∈ u_ws own T N, w ∈ zt) ∧ Cond.fieldLink own index (T j).1 (T j).2.1 (T j).2.2.1 ∈ zt ∧ (∀ k, k < N → parseFieldDescriptor (T k).2.2.1 = some (ty0 k)) ∧ (∀ a, a < N → ∀ b, b < N → a ≠ b → (T a).2.1 ≠ (T b).2.1) ∧ (T j).2.2.2 = true ∧ (T j).1 = own ∧ parseFieldDescriptor (T j).2.2.1 = some ty
theorem zz_putF (C : zc X E cc nL own rm) (I : zi X "<init>") {index ci j k : Nat} {fs : List Value} {v : Value} {ty : FieldType} (hd : decode cc pc = .ok (.putfield index, 3)) (hf : zff own index ci j ty) (he : zg h k = some (.inr (ci, fs))) (hn : narrow ty v = v) (hfit : fits ty v = true) (hl : j < fs.length) (kk : ∀ h' : zH, zg h' k = some (.inr (ci, fs.set j v)) → (∀ i, i ≠ k → zg h' i = zg h i) → zz X E nL ad kc ks (pc + 3) L st h') : zz X E nL ad kc ks pc L (v :: .ref (ad k) :: st) h := by
  obtain ⟨p, l, e, R, s, m, args, below, meth, c, Q, A⟩ := X
  obtain ⟨⟨hx, hb, hml, hown, hts⟩, ⟨hK, hN⟩, hA, hR⟩ := C
  obtain ⟨T, N, ty0, hc, hk, hin, hlink, hty, hnm, hfin, hdecl, hdsc⟩ := hf
  obtain ⟨i, hi, g1, g2⟩ := zg_at he
  intro H locs ls a1 a2 a3 a5
  refine va_putF (D := E.1) hx hb hts hin ty0 hty hnm hown hK a1 a2 a3 i (zw_at hi) hc j hk (hts _ hlink) (fun _ q => q) hfin I hdecl hdsc hn hfit hl hd fun H1 locs1 b1 b2 b3 => ?_
  rw [zw_set] at b1 b2
  exact kk _ (g1 _) (g2 _) H1 locs1 ls b1 b2 b3 a5
theorem zz_obj (C : zc X E cc nL own rm) {idx a : Nat} (hd : decode cc pc = .ok (.invokespecial idx, 3)) (hl : Cond.methodLink own idx objectInit ∈ zt) (hfr : 1 ≤ rm.frames) (hlo : (st.map fun v => v.category).sum + 12 ≤ rm.locals) (kk : zz X E nL ad kc ks (pc + 3) L st h) : zz X E nL ad kc ks pc L (.ref a :: st) h := by
  obtain ⟨p, l, e, R, s, m, args, below, meth, c, Q, A⟩ := X
  obtain ⟨⟨hx, hb, hml, hown, hts⟩, ⟨hK, hN⟩, hA, hR⟩ := C
  subst hR
  intro H locs ls a1 a2 a3 a5
  refine W.objInit hx hb hown (hts _ hl) (hts _ im_obj) (hts _ cd_obj) rfl (by rw [hml]; exact a5.1) rfl hd hfr ?_ (kk H locs ls a1 a2 a3 a5)
  simpa [JFrame.monitorRoom] using hlo
/-- aastore into the nodes -/
theorem zz_aastN (C : zc X E cc nL own rm) {k kv n j : Nat} {i : Int32} {fs : List Value} {f : Nat → Option Nat} (hd : decode cc pc = .ok (.aastore, 1)) (he : zg h k = some (.inl (E.2 3, n, .inr (.inr (.inr (.inr f)))))) (hv : zg h kv = some (.inr (4, fs))) (hi : i = nI j) (hj : j < n) (hn : n < 2 ^ 31) (kk : ∀ h' : zH, zg h' k = some (.inl (E.2 3, n, .inr (.inr (.inr (.inr (va_up f j (some (ad kv)))))))) → (∀ i, i ≠ k → zg h' i = zg h i) → zz X E nL ad kc ks (pc + 1) L st h') : zz X E nL ad kc ks pc L (.ref (ad kv) :: .int i :: .ref (ad k) :: st) h := by
  obtain ⟨p, l, e, R, s, m, args, below, meth, c, Q, A⟩ := X
  obtain ⟨⟨hx, hb, hml, hown, hts⟩, ⟨hK, hN⟩, hA, hR⟩ := C
  subst hi
  have hcl : (nI j).toNatClampNeg = j := nI_clamp (Nat.lt_trans hj hn)
  obtain ⟨q, hq, g1, g2⟩ := zg_at he
  obtain ⟨q2, hq2, -, -⟩ := zg_at hv
  intro H locs ls a1 a2 a3 a5
  refine va_astq (D := E.1) (r := (R_Nd, F_Nd, 12)) hx hb hK a1 a2 a3 q 3 q2 4 (zw_at hq) rfl (zw_at hq2) rfl (vp_in_nI hj hn) hd fun H1 locs1 b1 b2 b3 => ?_
  rw [zw_set] at b1 b2
  rw [hcl] at b1 b2
  exact kk _ (g1 _) (g2 _) H1 locs1 ls b1 b2 b3 a5
/-- a constructor's words -/
def zyi (y : MethodName) (b : ByteArray) (nL n : Nat) : Prop := Cond.code y b nL none ∈ zt ∧ Cond.instanceMethod y ∈ zt ∧ Cond.initialized y.cls ∈ zt ∧ y.name = "<init>" ∧ y.cls ≠ "java/lang/invoke/MethodHandle" ∧ y.cls ≠ "java/lang/invoke/VarHandle" ∧ (parseMethodDescriptor y.desc).map (fun d => d.parameters.length) = some n
theorem zz_callI (C : zc X E cc nL own rm) {y : MethodName} {b : ByteArray} {maxL n index kb : Nat} {rmc : Room} {post : Option Value → (Nat → Nat) → zH → Prop} {As rest : List Value} (hd : decode cc pc = .ok (.invokespecial index, 3)) (hl : Cond.methodLink own index y ∈ zt) (hY : zyi y b maxL n) (hM : zMet X.2.1 y b maxL none rmc E (.ref (ad kb) :: As) ad h post) (hroom : rmc.frames + 1 ≤ rm.frames ∧ 8 + (maxL + 11) + rmc.locals ≤ rm.locals) (hcells : kc + rmc.cells ≤ rm.cells ∧ ks + rmc.slots ≤ rm.slots) (hst : st = As.reverse ++ .ref (ad kb) :: rest) (hn : As.length = n) (hwd : (rest.map fun v => v.category).sum ≤ 8)
    (kk : ∀ (r : Option Value) (ad' : Nat → Nat) (h' : zH), post r ad' h' → zz X E nL ad' (kc + rmc.cells) (ks + rmc.slots) (pc + 3) L (r.toList ++ rest) h') : zz X E nL ad kc ks pc L st h := by
  obtain ⟨p, l, e, R, s, m, args, below, meth, c, Q, A⟩ := X
  obtain ⟨⟨hx, hb, hml, hown, hts⟩, ⟨hK, hN⟩, hA, hR⟩ := C
  subst hR
  obtain ⟨y1, y2, y4, y3, y5, y6, y7⟩ := hY
  have hG : GoodIn zt (Cond.code y b maxL none :: zt) := z_in fun w hw => by
    rcases List.mem_cons.mp hw with rfl | hw <;> assumption
  intro H locs ls a1 a2 a3 a5
  exact zz_after (va_runI (As := As) (rest := rest) ⟨hx, hb, hml, hown, hts⟩ (hM H.size) (cwI n hts hG rfl rfl rfl (hts _ y4) (hts _ hl) (hts _ y2) y3 ⟨y5, y6, y7⟩ hroom) ⟨zz_blind, fun U hU hW => ⟨rfl, zz_pre ⟨hK, hN⟩ a1 a2 hU hW⟩⟩ rfl hn a5.1 hst (lv_room hwd) hd hcells) hA a2 a3 fun r ad' h' hp H1 locs1 b1 b2 b3 => kk r ad' h' hp H1 locs1 ls b1 b2 b3 a5
theorem zz_callIN (C : zc X E cc nL own rm) {y : MethodName} {b : ByteArray} {maxL n index kb : Nat} {host : String} {rmc : Room} {post : Option Value → (Nat → Nat) → zH → Prop} {As rest : List Value} (hd : decode cc pc = .ok (.invokespecial index, 3)) (hl : (own, index, y, host) ∈ zn) (hY : zyi y b maxL n) (hM : zMet X.2.1 y b maxL none rmc E (.ref (ad kb) :: As) ad h post) (hroom : rmc.frames + 1 ≤ rm.frames ∧ 8 + (maxL + 11) + rmc.locals ≤ rm.locals) (hcells : kc + rmc.cells ≤ rm.cells ∧ ks + rmc.slots ≤ rm.slots) (hst : st = As.reverse ++ .ref (ad kb) :: rest) (hn : As.length = n) (hwd : (rest.map fun v => v.category).sum ≤ 8)
    (kk : ∀ (r : Option Value) (ad' : Nat → Nat) (h' : zH), post r ad' h' → zz X E nL ad' (kc + rmc.cells) (ks + rmc.slots) (pc + 3) L (r.toList ++ rest) h') : zz X E nL ad kc ks pc L st h := by
  obtain ⟨p, l, e, R, s, m, args, below, meth, c, Q, A⟩ := X
  obtain ⟨⟨hx, hb, hml, hown, hts⟩, ⟨hK, hN⟩, hA, hR⟩ := C
  subst hR
  obtain ⟨y1, y2, y4, y3, y5, y6, y7⟩ := hY
  have hG : GoodIn zt (Cond.code y b maxL none :: zt) := z_in fun w hw => by
    rcases List.mem_cons.mp hw with rfl | hw <;> assumption
  intro H locs ls a1 a2 a3 a5
  exact zz_after (va_runIN (As := As) (rest := rest) ⟨hx, hb, hml, hown, hts⟩ (hM H.size) ⟨va_cnB n hts hG rfl rfl rfl (hN _ hl) (hts _ y4) ⟨y5, y6, y7⟩ hroom, y3, hts _ y2⟩ ⟨zz_blind, fun U hU hW => ⟨rfl, zz_pre ⟨hK, hN⟩ a1 a2 hU hW⟩⟩ rfl hn a5.1 hst (lv_room hwd) hd hcells) hA a2 a3 fun r ad' h' hp H1 locs1 b1 b2 b3 => kk r ad' h' hp H1 locs1 ls b1 b2 b3 a5
end ALLOC
theorem zMet.ofI {l : Launch} {y : MethodName} {rm : Room} {E : zE} {av : List Value} {ad : Nat → Nat} {h : zH} {post : Option Value → (Nat → Nat) → zH → Prop} {cc : ByteArray} {nL : Nat} {ret : Option FieldType} {L : List (Option Value)}
    (hy : plainFor y = true) (hn : (lg_sl av).length ≤ nL) (hcat : av.all (fun v => v.category == 1) = true) (n : Nat) (hL : av.map some ++ List.replicate n none = L)
    (body : ∀ X : zX, X.2.1 = l → zi X y.name → zc X E cc nL y.cls rm → zr X E ret rm.cells rm.slots post → zz X E nL ad 0 0 0 L [] h) : zMet l y cc nL ret rm E av ad h post := by
  intro sz
  refine zOfW (cc := cc) (maxL := nL) (ret := ret) hy rfl ?_
  intro p e s m args below meth c s₁ B hml hv
  obtain ⟨rfl, hsz, hP, hK, hD⟩ := hv
  subst hsz
  subst hL
  have hts0 := atoms_spec (ws := Cond.code y cc nL ret :: zt) B.pre
  have hts : ∀ w ∈ zt, w.before av.toArray s = true := fun w hw => hts0 w (List.mem_cons_of_mem _ hw)
  have hl := lv_entry av (n := nL) hn
  rw [lg_entry_eq]
  have K := body (p, l, e, (headSpec (Cond.code y cc nL ret :: zt) rm).room, s, m, av.toArray, below, meth, c, MQ below (zQc E (va_A (zw ad h) s.heap.size) post) av.toArray s rm.cells rm.slots (va_A (zw ad h) s.heap.size), va_A (zw ad h) s.heap.size) rfl (name_of_methodNamed B.named B.method).1
    ⟨⟨B.exec, B.bytes, hml, findClass_of_methodNamed B.named, hts⟩, hK, fun q hq => Or.inr hq, rfl⟩ ⟨B.returns, B.notSynchronized, rfl⟩
  exact K s.heap [] _ hP hD.self va_S.rf (zL.of hl fun j w h => zav_ok hcat h)
theorem zq_Pb_9 : zff "BranchTrees$Problem" 9 6 0 (.array (.int)) := ⟨F_Pb, 10, t_Pb, rfl, by decide, iw_Pb, fk_Pb_9, ty_Pb, nm_Pb, rfl, rfl, by decide +kernel⟩
theorem zq_Pb_15 : zff "BranchTrees$Problem" 15 6 1 (.array (.int)) := ⟨F_Pb, 10, t_Pb, rfl, by decide, iw_Pb, fk_Pb_15, ty_Pb, nm_Pb, rfl, rfl, by decide +kernel⟩
theorem zq_Pb_18 : zff "BranchTrees$Problem" 18 6 2 (.array (.int)) := ⟨F_Pb, 10, t_Pb, rfl, by decide, iw_Pb, fk_Pb_18, ty_Pb, nm_Pb, rfl, rfl, by decide +kernel⟩
theorem zq_Pb_21 : zff "BranchTrees$Problem" 21 6 3 (.array (.int)) := ⟨F_Pb, 10, t_Pb, rfl, by decide, iw_Pb, fk_Pb_21, ty_Pb, nm_Pb, rfl, rfl, by decide +kernel⟩
theorem zq_Pb_24 : zff "BranchTrees$Problem" 24 6 4 (.array (.int)) := ⟨F_Pb, 10, t_Pb, rfl, by decide, iw_Pb, fk_Pb_24, ty_Pb, nm_Pb, rfl, rfl, by decide +kernel⟩
theorem zq_Pb_27 : zff "BranchTrees$Problem" 27 6 5 (.array (.boolean)) := ⟨F_Pb, 10, t_Pb, rfl, by decide, iw_Pb, fk_Pb_27, ty_Pb, nm_Pb, rfl, rfl, by decide +kernel⟩
theorem zq_Pb_33 : zff "BranchTrees$Problem" 33 6 6 (.array (.array (.int))) := ⟨F_Pb, 10, t_Pb, rfl, by decide, iw_Pb, fk_Pb_33, ty_Pb, nm_Pb, rfl, rfl, by decide +kernel⟩
theorem zq_Be_9 : zff "BranchTrees$Best" 9 1 0 (.array (.int)) := ⟨F_Be, 3, t_Be, rfl, by decide, iw_Be, fk_Be_9, ty_Be, nm_Be, rfl, rfl, by decide +kernel⟩
theorem zq_Pr_9 : zff "BranchTrees$Prices" 9 5 0 (.array (.long)) := ⟨F_Pr, 2, t_Pr, rfl, by decide, iw_Pr, fk_Pr_9, ty_Pr, nm_Pr, rfl, rfl, by decide +kernel⟩
theorem zq_Pr_15 : zff "BranchTrees$Prices" 15 5 1 (.array (.int)) := ⟨F_Pr, 2, t_Pr, rfl, by decide, iw_Pr, fk_Pr_15, ty_Pr, nm_Pr, rfl, rfl, by decide +kernel⟩
theorem zq_Tr_11 : zff "BranchTrees$Tree" 11 9 0 (.array (.object "BranchTrees$Node")) := ⟨F_Tr, 3, t_Tr, rfl, by decide, iw_Tr, fk_Tr_11, ty_Tr, nm_Tr, rfl, rfl, by decide +kernel⟩
theorem zq_Nr_9 : zff "BranchTrees$Narrower" 9 3 0 (.object "BranchTrees$Problem") := ⟨F_Nr, 3, t_Nr, rfl, by decide, iw_Nr, fk_Nr_9, ty_Nr, nm_Nr, rfl, rfl, by decide +kernel⟩
theorem zq_Nr_15 : zff "BranchTrees$Narrower" 15 3 1 (.object "BranchTrees$Best") := ⟨F_Nr, 3, t_Nr, rfl, by decide, iw_Nr, fk_Nr_15, ty_Nr, nm_Nr, rfl, rfl, by decide +kernel⟩
theorem zq_Se_9 : zff "BranchTrees$Search" 9 8 0 (.object "BranchTrees$Problem") := ⟨F_Se, 6, t_Se, rfl, by decide, iw_Se, fk_Se_9, ty_Se, nm_Se, rfl, rfl, by decide +kernel⟩
theorem zq_Se_15 : zff "BranchTrees$Search" 15 8 1 (.object "BranchTrees$Best") := ⟨F_Se, 6, t_Se, rfl, by decide, iw_Se, fk_Se_15, ty_Se, nm_Se, rfl, rfl, by decide +kernel⟩
theorem zq_Se_19 : zff "BranchTrees$Search" 19 8 2 (.object "BranchTrees$Prices") := ⟨F_Se, 6, t_Se, rfl, by decide, iw_Se, fk_Se_19, ty_Se, nm_Se, rfl, rfl, by decide +kernel⟩
theorem zq_Se_23 : zff "BranchTrees$Search" 23 8 3 (.object "BranchTrees$Tree") := ⟨F_Se, 6, t_Se, rfl, by decide, iw_Se, fk_Se_23, ty_Se, nm_Se, rfl, rfl, by decide +kernel⟩
theorem zq_Se_27 : zff "BranchTrees$Search" 27 8 4 (.object "BranchTrees$Narrower") := ⟨F_Se, 6, t_Se, rfl, by decide, iw_Se, fk_Se_27, ty_Se, nm_Se, rfl, rfl, by decide +kernel⟩
theorem zq_Se_31 : zff "BranchTrees$Search" 31 8 5 (.array (.int)) := ⟨F_Se, 6, t_Se, rfl, by decide, iw_Se, fk_Se_31, ty_Se, nm_Se, rfl, rfl, by decide +kernel⟩
theorem zq_Bx_9 : zff "BranchTrees$Box" 9 2 0 (.array (.int)) := ⟨F_Bx, 2, t_Bx, rfl, by decide, iw_Bx, fk_Bx_9, ty_Bx, nm_Bx, rfl, rfl, by decide +kernel⟩
theorem zq_Bx_15 : zff "BranchTrees$Box" 15 2 1 (.array (.int)) := ⟨F_Bx, 2, t_Bx, rfl, by decide, iw_Bx, fk_Bx_15, ty_Bx, nm_Bx, rfl, rfl, by decide +kernel⟩
theorem zq_Pf_18 : zff "BranchTrees$Proof" 18 7 0 (.object "BranchTrees$Problem") := ⟨F_Pf, 4, t_Pf, rfl, by decide, iw_Pf, fk_Pf_18, ty_Pf, nm_Pf, rfl, rfl, by decide +kernel⟩
theorem zq_Pf_22 : zff "BranchTrees$Proof" 22 7 1 (.object "BranchTrees$Tree") := ⟨F_Pf, 4, t_Pf, rfl, by decide, iw_Pf, fk_Pf_22, ty_Pf, nm_Pf, rfl, rfl, by decide +kernel⟩
theorem zq_Pf_26 : zff "BranchTrees$Proof" 26 7 2 (.object "BranchTrees$Narrower") := ⟨F_Pf, 4, t_Pf, rfl, by decide, iw_Pf, fk_Pf_26, ty_Pf, nm_Pf, rfl, rfl, by decide +kernel⟩
theorem zq_Pf_12 : zff "BranchTrees$Proof" 12 7 3 (.object "BranchTrees$Box") := ⟨F_Pf, 4, t_Pf, rfl, by decide, iw_Pf, fk_Pf_12, ty_Pf, nm_Pf, rfl, rfl, by decide +kernel⟩
theorem zq_BT_10 : zff "BranchTrees" 10 0 0 (.object "BranchTrees$Problem") := ⟨F_BT, 8, t_BT, rfl, by decide, iw_BT, fk_BT_10, ty_BT, nm_BT, rfl, rfl, by decide +kernel⟩
theorem zq_BT_19 : zff "BranchTrees" 19 0 1 (.object "BranchTrees$Best") := ⟨F_BT, 8, t_BT, rfl, by decide, iw_BT, fk_BT_19, ty_BT, nm_BT, rfl, rfl, by decide +kernel⟩
theorem zq_BT_26 : zff "BranchTrees" 26 0 2 (.object "BranchTrees$Prices") := ⟨F_BT, 8, t_BT, rfl, by decide, iw_BT, fk_BT_26, ty_BT, nm_BT, rfl, rfl, by decide +kernel⟩
theorem zq_BT_33 : zff "BranchTrees" 33 0 3 (.object "BranchTrees$Tree") := ⟨F_BT, 8, t_BT, rfl, by decide, iw_BT, fk_BT_33, ty_BT, nm_BT, rfl, rfl, by decide +kernel⟩
theorem zq_BT_57 : zff "BranchTrees" 57 0 4 (.object "BranchTrees$Search") := ⟨F_BT, 8, t_BT, rfl, by decide, iw_BT, fk_BT_57, ty_BT, nm_BT, rfl, rfl, by decide +kernel⟩
theorem zq_BT_66 : zff "BranchTrees" 66 0 5 (.object "BranchTrees$Proof") := ⟨F_BT, 8, t_BT, rfl, by decide, iw_BT, fk_BT_66, ty_BT, nm_BT, rfl, rfl, by decide +kernel⟩
theorem zq_BT_41 : zff "BranchTrees" 41 0 6 (.array (.int)) := ⟨F_BT, 8, t_BT, rfl, by decide, iw_BT, fk_BT_41, ty_BT, nm_BT, rfl, rfl, by decide +kernel⟩
theorem zq_BT_44 : zff "BranchTrees" 44 0 7 (.array (.int)) := ⟨F_BT, 8, t_BT, rfl, by decide, iw_BT, fk_BT_44, ty_BT, nm_BT, rfl, rfl, by decide +kernel⟩
theorem zq_Nd_18 : zff "BranchTrees$Node" 18 4 0 (.int) := ⟨F_Nd, 12, t_Nd, rfl, by decide, iw_Nd, fk_Nd_18, ty_Nd, nm_Nd, rfl, rfl, by decide +kernel⟩
theorem zq_Nd_12 : zff "BranchTrees$Node" 12 4 1 (.object "BranchTrees$Box") := ⟨F_Nd, 12, t_Nd, rfl, by decide, iw_Nd, fk_Nd_12, ty_Nd, nm_Nd, rfl, rfl, by decide +kernel⟩
theorem zq_Mo_13 : zff "BranchTreesModel" 13 10 2 (.array (.int)) := ⟨F_Mo, 31, t_Mo, rfl, by decide, iw_Mo, fk_Mo_13, ty_Mo, nm_Mo, rfl, rfl, by decide +kernel⟩
theorem zq_Mo_17 : zff "BranchTreesModel" 17 10 3 (.array (.int)) := ⟨F_Mo, 31, t_Mo, rfl, by decide, iw_Mo, fk_Mo_17, ty_Mo, nm_Mo, rfl, rfl, by decide +kernel⟩
theorem zq_Mo_20 : zff "BranchTreesModel" 20 10 4 (.array (.long)) := ⟨F_Mo, 31, t_Mo, rfl, by decide, iw_Mo, fk_Mo_20, ty_Mo, nm_Mo, rfl, rfl, by decide +kernel⟩
theorem zq_Mo_24 : zff "BranchTreesModel" 24 10 5 (.array (.int)) := ⟨F_Mo, 31, t_Mo, rfl, by decide, iw_Mo, fk_Mo_24, ty_Mo, nm_Mo, rfl, rfl, by decide +kernel⟩
theorem zq_Mo_27 : zff "BranchTreesModel" 27 10 6 (.array (.int)) := ⟨F_Mo, 31, t_Mo, rfl, by decide, iw_Mo, fk_Mo_27, ty_Mo, nm_Mo, rfl, rfl, by decide +kernel⟩
theorem zq_Mo_30 : zff "BranchTreesModel" 30 10 7 (.array (.int)) := ⟨F_Mo, 31, t_Mo, rfl, by decide, iw_Mo, fk_Mo_30, ty_Mo, nm_Mo, rfl, rfl, by decide +kernel⟩
theorem zq_Mo_33 : zff "BranchTreesModel" 33 10 9 (.array (.int)) := ⟨F_Mo, 31, t_Mo, rfl, by decide, iw_Mo, fk_Mo_33, ty_Mo, nm_Mo, rfl, rfl, by decide +kernel⟩
theorem zq_Mo_36 : zff "BranchTreesModel" 36 10 10 (.array (.int)) := ⟨F_Mo, 31, t_Mo, rfl, by decide, iw_Mo, fk_Mo_36, ty_Mo, nm_Mo, rfl, rfl, by decide +kernel⟩
theorem zq_Mo_39 : zff "BranchTreesModel" 39 10 11 (.array (.int)) := ⟨F_Mo, 31, t_Mo, rfl, by decide, iw_Mo, fk_Mo_39, ty_Mo, nm_Mo, rfl, rfl, by decide +kernel⟩
theorem zq_Mo_42 : zff "BranchTreesModel" 42 10 12 (.array (.boolean)) := ⟨F_Mo, 31, t_Mo, rfl, by decide, iw_Mo, fk_Mo_42, ty_Mo, nm_Mo, rfl, rfl, by decide +kernel⟩
theorem zq_Mo_46 : zff "BranchTreesModel" 46 10 13 (.array (.int)) := ⟨F_Mo, 31, t_Mo, rfl, by decide, iw_Mo, fk_Mo_46, ty_Mo, nm_Mo, rfl, rfl, by decide +kernel⟩
theorem zq_Mo_49 : zff "BranchTreesModel" 49 10 16 (.array (.int)) := ⟨F_Mo, 31, t_Mo, rfl, by decide, iw_Mo, fk_Mo_49, ty_Mo, nm_Mo, rfl, rfl, by decide +kernel⟩
theorem zq_Mo_52 : zff "BranchTreesModel" 52 10 19 (.array (.int)) := ⟨F_Mo, 31, t_Mo, rfl, by decide, iw_Mo, fk_Mo_52, ty_Mo, nm_Mo, rfl, rfl, by decide +kernel⟩
theorem zq_Mo_55 : zff "BranchTreesModel" 55 10 20 (.array (.int)) := ⟨F_Mo, 31, t_Mo, rfl, by decide, iw_Mo, fk_Mo_55, ty_Mo, nm_Mo, rfl, rfl, by decide +kernel⟩
theorem zq_Mo_58 : zff "BranchTreesModel" 58 10 21 (.array (.int)) := ⟨F_Mo, 31, t_Mo, rfl, by decide, iw_Mo, fk_Mo_58, ty_Mo, nm_Mo, rfl, rfl, by decide +kernel⟩
theorem zq_Mo_61 : zff "BranchTreesModel" 61 10 22 (.array (.int)) := ⟨F_Mo, 31, t_Mo, rfl, by decide, iw_Mo, fk_Mo_61, ty_Mo, nm_Mo, rfl, rfl, by decide +kernel⟩
theorem zq_Mo_64 : zff "BranchTreesModel" 64 10 23 (.array (.int)) := ⟨F_Mo, 31, t_Mo, rfl, by decide, iw_Mo, fk_Mo_64, ty_Mo, nm_Mo, rfl, rfl, by decide +kernel⟩
theorem zq_Mo_67 : zff "BranchTreesModel" 67 10 24 (.array (.int)) := ⟨F_Mo, 31, t_Mo, rfl, by decide, iw_Mo, fk_Mo_67, ty_Mo, nm_Mo, rfl, rfl, by decide +kernel⟩
theorem zq_Mo_70 : zff "BranchTreesModel" 70 10 25 (.array (.int)) := ⟨F_Mo, 31, t_Mo, rfl, by decide, iw_Mo, fk_Mo_70, ty_Mo, nm_Mo, rfl, rfl, by decide +kernel⟩
theorem zq_Mo_73 : zff "BranchTreesModel" 73 10 26 (.array (.int)) := ⟨F_Mo, 31, t_Mo, rfl, by decide, iw_Mo, fk_Mo_73, ty_Mo, nm_Mo, rfl, rfl, by decide +kernel⟩
theorem zq_Mo_76 : zff "BranchTreesModel" 76 10 27 (.array (.int)) := ⟨F_Mo, 31, t_Mo, rfl, by decide, iw_Mo, fk_Mo_76, ty_Mo, nm_Mo, rfl, rfl, by decide +kernel⟩
theorem zq_Mo_79 : zff "BranchTreesModel" 79 10 28 (.array (.int)) := ⟨F_Mo, 31, t_Mo, rfl, by decide, iw_Mo, fk_Mo_79, ty_Mo, nm_Mo, rfl, rfl, by decide +kernel⟩
theorem zq_Mo_82 : zff "BranchTreesModel" 82 10 29 (.array (.int)) := ⟨F_Mo, 31, t_Mo, rfl, by decide, iw_Mo, fk_Mo_82, ty_Mo, nm_Mo, rfl, rfl, by decide +kernel⟩
theorem zy_BT_init : zyi y_BT_init b_BT_init 2 0 := ⟨cd_BT_init, im_BT_init, ii_BT, rfl, by decide, by decide, by decide +kernel⟩
theorem zy_Pb_init : zyi y_Pb_init b_Pb_init 1 0 := ⟨cd_Pb_init, im_Pb_init, ii_Pb, rfl, by decide, by decide, by decide +kernel⟩
theorem zy_Be_init : zyi y_Be_init b_Be_init 1 0 := ⟨cd_Be_init, im_Be_init, ii_Be, rfl, by decide, by decide, by decide +kernel⟩
theorem zy_Pr_init : zyi y_Pr_init b_Pr_init 1 0 := ⟨cd_Pr_init, im_Pr_init, ii_Pr, rfl, by decide, by decide, by decide +kernel⟩
theorem zy_Tr_init : zyi y_Tr_init b_Tr_init 1 0 := ⟨cd_Tr_init, im_Tr_init, ii_Tr, rfl, by decide, by decide, by decide +kernel⟩
theorem zy_Nr_init : zyi y_Nr_init b_Nr_init 3 2 := ⟨cd_Nr_init, im_Nr_init, ii_Nr, rfl, by decide, by decide, by decide +kernel⟩
theorem zy_Se_init : zyi y_Se_init b_Se_init 7 6 := ⟨cd_Se_init, im_Se_init, ii_Se, rfl, by decide, by decide, by decide +kernel⟩
theorem zy_Pf_init : zyi y_Pf_init b_Pf_init 4 3 := ⟨cd_Pf_init, im_Pf_init, ii_Pf, rfl, by decide, by decide, by decide +kernel⟩
theorem zy_Bx_init : zyi y_Bx_init b_Bx_init 1 0 := ⟨cd_Bx_init, im_Bx_init, ii_Bx, rfl, by decide, by decide, by decide +kernel⟩
theorem zy_Nd_init : zyi y_Nd_init b_Nd_init 2 1 := ⟨cd_Nd_init, im_Nd_init, ii_Nd, rfl, by decide, by decide, by decide +kernel⟩
theorem zy_Mo_init : zyi y_Mo_init b_Mo_init 1 0 := ⟨cd_Mo_init, im_Mo_init, ii_Mo, rfl, by decide, by decide, by decide +kernel⟩
