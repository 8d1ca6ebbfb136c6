/-! STATICS: the table of the rules' kinds; the arrays of arrays and of nodes -/
def va_AOA (t : FieldType) (U : State) : Prop := (Cond.arrayOver (.array t)).before #[] U = true
theorem va_AOA.of {t : FieldType} {A : Array Value} {U : State} (h : (Cond.arrayOver (.array t)).before A U = true) : va_AOA t U := h
theorem va_AOA.use {t : FieldType} {A : Array Value} {U : State} (h : va_AOA t U) : (Cond.arrayOver (.array t)).before A U = true := h
theorem va_AOA.moved {t : FieldType} {u U : State} (hvm : u.vm.Alike U.vm) (h : va_AOA t u) : va_AOA t U := by
  have e : (Cond.arrayOver (.array t)).before #[] (u.setVm U.vm) = true := by rw [Cond.arrayOver_setVmC hvm]; exact h
  exact e
def rkV : Nat → Value := fun k => match k with
  | 0 => .int 3
  | 1 => .int 4
  | _ => .int 2
def zSt (t : Nat) (A : Nat → Prop) (U : State) (H : Heap) : Prop := va_Z "BranchTrees" "RULE_KINDS" "[I" (.ref t) A U H ∧ va_T .int t 3 rkV A U H ∧ va_AO "BranchTrees$Node" U ∧ va_AOA .int U
theorem zSt.moved {t : Nat} {A : Nat → Prop} {u U : State} {H : Heap} (hvm : u.vm.Alike U.vm) (h : zSt t A u H) : zSt t A U H := ⟨h.1.moved hvm, h.2.1.moved hvm, va_AO.moved hvm h.2.2.1, va_AOA.moved hvm h.2.2.2⟩
theorem zSt.kept {t : Nat} {A : Nat → Prop} {U : State} {H H1 : Heap} (h : zSt t A U H) (hq : ∀ a : Nat, a < H.size → ¬ A a → H1[a]? = H[a]?) : zSt t A U H1 := ⟨h.1.kept hq, h.2.1.kept hq, h.2.2⟩
theorem zSt.narrow {t : Nat} {A B : Nat → Prop} {U : State} {H : Heap} (h : zSt t A U H) (hAB : ∀ q, B q → A q) : zSt t B U H := ⟨h.1.narrow hAB, h.2.1.narrow hAB, h.2.2⟩
def zs (X : zX) (t : Nat) : Prop :=
  match X with
  | (p, l, e, R, s, m, args, below, meth, c, Q, A) => zSt t A s s.heap
def zPreT (E : zE) (ad : Nat → Nat) (h : zH) (sz t : Nat) (U : State) : Prop := zPre E ad h sz U ∧ zSt t (va_A (zw ad h) sz) U U.heap
def zMetT (l : Launch) (y : MethodName) (b : ByteArray) (nL : Nat) (ret : Option FieldType) (rm : Room) (E : zE) (av : List Value) (ad : Nat → Nat) (h : zH) (t : Nat) (post : Option Value → (Nat → Nat) → zH → Prop) : Prop :=
  ∀ sz : Nat, Met l y (Cond.code y b nL ret :: zt) rm (va_Pc av (zPreT E ad h sz t)) (zQc E (va_A (zw ad h) sz) post) rm.cells rm.slots (va_A (zw ad h) sz)
theorem zMetT.of {l : Launch} {y : MethodName} {rm : Room} {E : zE} {av : List Value} {ad : Nat → Nat} {h : zH} {t : Nat} {post : Option Value → (Nat → Nat) → zH → Prop} {cc : ByteArray} {nL : Nat} {ret : Option FieldType} {L : List (Option Value)}
    (hy : plainFor y = true) (hn : (lg_sl av).length ≤ nL) (hcat : av.all (fun v => v.category == 1) = true) (n : Nat) (hL : av.map some ++ List.replicate n none = L)
    (body : ∀ X : zX, X.2.1 = l → zi X y.name → zs X t → zc X E cc nL y.cls rm → zr X E ret rm.cells rm.slots post → zz X E nL ad 0 0 0 L [] h) : zMetT l y cc nL ret rm E av ad h t post := by
  intro sz
  refine zOfW (cc := cc) (maxL := nL) (ret := ret) hy rfl ?_
  intro p e s m args below meth c s₁ B hml hv
  obtain ⟨rfl, ⟨hsz, hP, hK, hD⟩, hT⟩ := hv
  subst hsz
  subst hL
  have hts0 := atoms_spec (ws := Cond.code y cc nL ret :: zt) B.pre
  have hts : ∀ w ∈ zt, w.before av.toArray s = true := fun w hw => hts0 w (List.mem_cons_of_mem _ hw)
  have hl := lv_entry av (n := nL) hn
  rw [lg_entry_eq]
  have K := body (p, l, e, (headSpec (Cond.code y cc nL ret :: zt) rm).room, s, m, av.toArray, below, meth, c, MQ below (zQc E (va_A (zw ad h) s.heap.size) post) av.toArray s rm.cells rm.slots (va_A (zw ad h) s.heap.size), va_A (zw ad h) s.heap.size) rfl (name_of_methodNamed B.named B.method).1 hT
    ⟨⟨B.exec, B.bytes, hml, findClass_of_methodNamed B.named, hts⟩, hK, fun q hq => Or.inr hq, rfl⟩ ⟨B.returns, B.notSynchronized, rfl⟩
  exact K s.heap [] _ hP hD.self va_S.rf (zL.of hl fun j w h => zav_ok hcat h)
section STAT
variable {X : zX} {E : zE} {cc : ByteArray} {nL : Nat} {own : String} {rm : Room} {ad : Nat → Nat} {kc ks pc : Nat} {L : List (Option Value)} {st : List Value} {h : zH} {t : Nat}
theorem zz_gets (C : zc X E cc nL "BranchTrees" rm) (S : zs X t) {index : Nat} (hd : decode cc pc = .ok (.getstatic index, 3)) (hl : Cond.fieldLink "BranchTrees" index "BranchTrees" "RULE_KINDS" "[I" ∈ zt) (kk : zz X E nL ad kc ks (pc + 3) L (.ref t :: st) h) : zz X E nL ad kc ks pc L st h := by
  obtain ⟨p, l, e, R, s, m, args, below, meth, c, Q, A⟩ := X
  obtain ⟨⟨hx, hb, hml, hown, hts⟩, ⟨hK, hN⟩, hA, hR⟩ := C
  exact fun H locs ls a1 a2 a3 a5 => va_gets hx hb S.1 a3 hown (hts _ hl) (fun _ q => q) hd (kk H locs ls a1 a2 a3 a5)
theorem zz_tlen (C : zc X E cc nL own rm) (S : zs X t) (hd : decode cc pc = .ok (.arraylength, 1)) (kk : zz X E nL ad kc ks (pc + 1) L (.int 3 :: st) h) : zz X E nL ad kc ks pc L (.ref t :: st) h := by
  obtain ⟨p, l, e, R, s, m, args, below, meth, c, Q, A⟩ := X
  obtain ⟨⟨hx, hb, hml, hown, hts⟩, ⟨hK, hN⟩, hA, hR⟩ := C
  exact fun H locs ls a1 a2 a3 a5 => va_tlen hx hb S.2.1 a3 (v := 3) rfl hd (kk H locs ls a1 a2 a3 a5)
theorem zz_ti (C : zc X E cc nL own rm) (S : zs X t) {i v : Int32} {j : Nat} (hd : decode cc pc = .ok (.iaload, 1)) (hi : i = nI j) (hj : j < 3) (hv : rkV j = .int v) (kk : zz X E nL ad kc ks (pc + 1) L (.int v :: st) h) : zz X E nL ad kc ks pc L (.int i :: .ref t :: st) h := by
  obtain ⟨p, l, e, R, s, m, args, below, meth, c, Q, A⟩ := X
  obtain ⟨⟨hx, hb, hml, hown, hts⟩, ⟨hK, hN⟩, hA, hR⟩ := C
  subst hi
  exact fun H locs ls a1 a2 a3 a5 => va_ti hx hb S.2.1 a3 (vp_in_nI hj (by decide)) (by rw [nI_clamp (by omega)]; exact hv) hd (kk H locs ls a1 a2 a3 a5)
theorem zz_preT {s U : State} {H : Heap} {A : Nat → Prop} {locs : List Loc} (hK : zK E s) (hA : ∀ q, s.heap.size ≤ q → A q) (a1 : va_P E.1 zCl (zw ad h) H) (a2 : va_D A (zw ad h)) (a3 : va_S A s.heap H locs) (hT : zSt t A s s.heap) (hU : U.heap = H) (hW : s.WarmedH U.vm) : zPreT E ad h H.size t U := by
  have hf : ∀ q, va_A (zw ad h) H.size q → A q := by
    rintro q (⟨i, x, hi⟩ | hq)
    · exact a2.2 i _ hi
    · exact hA q (Nat.le_trans a3.1 hq)
  refine ⟨zz_pre hK a1 a2 hU hW, ?_⟩
  rw [hU]
  exact ((hT.kept (fun a h1 h2 => a3.2.1 a h1 h2)).narrow hf).moved hW.alike
theorem zz_blindT {av : List Value} {sz : Nat} : FrameBlind (va_Pc av (zPreT E ad h sz t)) := fun a U g mk q => by
  obtain ⟨q0, q1, q2⟩ := q
  obtain ⟨-, w⟩ := zz_blind (E := E) (ad := ad) (h := h) (av := av) (sz := sz) a U g mk ⟨q0, q1⟩
  exact ⟨q0, w, zSt.moved (u := U) (U := U.calling g mk a) (Vm.Alike.refl U.vm) q2⟩
theorem zz_callVT (C : zc X E cc nL own rm) (S : zs X t) {y : MethodName} {b : ByteArray} {maxL n index kb ci N : Nat} {ret : Option FieldType} {rmc : Room} {post : Option Value → (Nat → Nat) → zH → Prop} {As rest : List Value} {fs : List Value} {T : u_T} (hd : decode cc pc = .ok (.invokevirtual index, 3)) (hl : Cond.methodLink own index y ∈ zt) (hY : zy y b maxL ret n) (hM : zMetT X.2.1 y b maxL ret rmc E (.ref (ad kb) :: As) ad h t post) (hroom : rmc.frames + 1 ≤ rm.frames ∧ 8 + (maxL + 11) + rmc.locals ≤ rm.locals) (hcells : kc + rmc.cells ≤ rm.cells ∧ ks + rmc.slots ≤ rm.slots) (hrecv : zg h kb = some (.inr (ci, fs))) (hc : zCl[ci]? = some (y.cls, T, N)) (hst : st = As.reverse ++ .ref (ad kb) :: rest) (hn : As.length = n) (hwd : (rest.map fun v => v.category).sum ≤ 8)
    (kk : ∀ (r : Option Value) (ad' : Nat → Nat) (h' : zH), post r ad' h' → zz X E nL ad' (kc + rmc.cells) (ks + rmc.slots) (pc + 3) L (r.toList ++ rest) h') : zz X E nL ad kc ks pc L st h := by
  obtain ⟨p, l, e, R, s, m, args, below, meth, c, Q, A⟩ := X
  obtain ⟨⟨hx, hb, hml, hown, hts⟩, ⟨hK, hN⟩, hA, hR⟩ := C
  subst hR
  obtain ⟨y1, y2, y3, y4, y5, y6, y7⟩ := hY
  obtain ⟨i, hi, -, -⟩ := zg_at hrecv
  have hG : GoodIn zt (wsV own index y.cls y (Cond.code y b maxL ret :: zt)) := z_in fun w hw => by
    simp only [wsV, List.cons_append, List.nil_append, List.mem_cons] at hw
    rcases hw with rfl | rfl | rfl | rfl | rfl | hw <;> assumption
  intro H locs ls a1 a2 a3 a5
  exact zz_after (va_runV (As := As) (rest := rest) ⟨hx, hb, hml, hown, hts⟩ (hM H.size) (cwV n hts hG rfl rfl rfl ⟨rfl, y5, y6, y7⟩ hroom) ⟨zz_blindT, va_recv hK a1 hc (zw_at hi), fun U hU hW => ⟨rfl, zz_preT ⟨hK, hN⟩ hA a1 a2 a3 S hU hW⟩⟩ rfl hn a5.1 hst (lv_room hwd) hd hcells) hA a2 a3 fun r ad' h' hp H1 locs1 b1 b2 b3 => kk r ad' h' hp H1 locs1 ls b1 b2 b3 a5
theorem zz_callIT (C : zc X E cc nL own rm) (S : zs X t) {y : MethodName} {b : ByteArray} {maxL n index kb : Nat} {rmc : Room} {post : Option Value → (Nat → Nat) → zH → Prop} {As rest : List Value} (hd : decode cc pc = .ok (.invokespecial index, 3)) (hl : Cond.methodLink own index y ∈ zt) (hY : zyi y b maxL n) (hM : zMetT X.2.1 y b maxL none rmc E (.ref (ad kb) :: As) ad h t post) (hroom : rmc.frames + 1 ≤ rm.frames ∧ 8 + (maxL + 11) + rmc.locals ≤ rm.locals) (hcells : kc + rmc.cells ≤ rm.cells ∧ ks + rmc.slots ≤ rm.slots) (hst : st = As.reverse ++ .ref (ad kb) :: rest) (hn : As.length = n) (hwd : (rest.map fun v => v.category).sum ≤ 8)
    (kk : ∀ (r : Option Value) (ad' : Nat → Nat) (h' : zH), post r ad' h' → zz X E nL ad' (kc + rmc.cells) (ks + rmc.slots) (pc + 3) L (r.toList ++ rest) h') : zz X E nL ad kc ks pc L st h := by
  obtain ⟨p, l, e, R, s, m, args, below, meth, c, Q, A⟩ := X
  obtain ⟨⟨hx, hb, hml, hown, hts⟩, ⟨hK, hN⟩, hA, hR⟩ := C
  subst hR
  obtain ⟨y1, y2, y4, y3, y5, y6, y7⟩ := hY
  have hG : GoodIn zt (Cond.code y b maxL none :: zt) := z_in fun w hw => by
    rcases List.mem_cons.mp hw with rfl | hw <;> assumption
  intro H locs ls a1 a2 a3 a5
  exact zz_after (va_runI (As := As) (rest := rest) ⟨hx, hb, hml, hown, hts⟩ (hM H.size) (cwI n hts hG rfl rfl rfl (hts _ y4) (hts _ hl) (hts _ y2) y3 ⟨y5, y6, y7⟩ hroom) ⟨zz_blindT, fun U hU hW => ⟨rfl, zz_preT ⟨hK, hN⟩ hA a1 a2 a3 S hU hW⟩⟩ rfl hn a5.1 hst (lv_room hwd) hd hcells) hA a2 a3 fun r ad' h' hp H1 locs1 b1 b2 b3 => kk r ad' h' hp H1 locs1 ls b1 b2 b3 a5
theorem zz_callINT (C : zc X E cc nL own rm) (S : zs X t) {y : MethodName} {b : ByteArray} {maxL n index kb : Nat} {host : String} {rmc : Room} {post : Option Value → (Nat → Nat) → zH → Prop} {As rest : List Value} (hd : decode cc pc = .ok (.invokespecial index, 3)) (hl : (own, index, y, host) ∈ zn) (hY : zyi y b maxL n) (hM : zMetT X.2.1 y b maxL none rmc E (.ref (ad kb) :: As) ad h t post) (hroom : rmc.frames + 1 ≤ rm.frames ∧ 8 + (maxL + 11) + rmc.locals ≤ rm.locals) (hcells : kc + rmc.cells ≤ rm.cells ∧ ks + rmc.slots ≤ rm.slots) (hst : st = As.reverse ++ .ref (ad kb) :: rest) (hn : As.length = n) (hwd : (rest.map fun v => v.category).sum ≤ 8)
    (kk : ∀ (r : Option Value) (ad' : Nat → Nat) (h' : zH), post r ad' h' → zz X E nL ad' (kc + rmc.cells) (ks + rmc.slots) (pc + 3) L (r.toList ++ rest) h') : zz X E nL ad kc ks pc L st h := by
  obtain ⟨p, l, e, R, s, m, args, below, meth, c, Q, A⟩ := X
  obtain ⟨⟨hx, hb, hml, hown, hts⟩, ⟨hK, hN⟩, hA, hR⟩ := C
  subst hR
  obtain ⟨y1, y2, y4, y3, y5, y6, y7⟩ := hY
  have hG : GoodIn zt (Cond.code y b maxL none :: zt) := z_in fun w hw => by
    rcases List.mem_cons.mp hw with rfl | hw <;> assumption
  intro H locs ls a1 a2 a3 a5
  exact zz_after (va_runIN (As := As) (rest := rest) ⟨hx, hb, hml, hown, hts⟩ (hM H.size) ⟨va_cnB n hts hG rfl rfl rfl (hN _ hl) (hts _ y4) ⟨y5, y6, y7⟩ hroom, y3, hts _ y2⟩ ⟨zz_blindT, fun U hU hW => ⟨rfl, zz_preT ⟨hK, hN⟩ hA a1 a2 a3 S hU hW⟩⟩ rfl hn a5.1 hst (lv_room hwd) hd hcells) hA a2 a3 fun r ad' h' hp H1 locs1 b1 b2 b3 => kk r ad' h' hp H1 locs1 ls b1 b2 b3 a5
end STAT
/-! BRANCHTREES.rule -/
def rkI (x : Int32) : Int32 := if x = 0 then 3 else if x = 1 then 4 else 2
def ruC (μ : Nat → Nat → Int32) (pa : Nat → Nat → Int64) (x v : Int32) : zO := if x < 0 then (-1, μ, pa) else if 3 ≤ x then (-1, μ, pa) else if v < 0 then (-1, μ, pa) else if v < rkI x then (μ 22 x.toNatClampNeg, va_up μ 22 (upd (μ 22) x.toNatClampNeg v), pa) else (-1, μ, pa)
section RULE
variable {l : Launch} {E : zE} {ad : Nat → Nat} {al c n rc sz : Nat} {V μ : Nat → Nat → Int32} {pv pa : Nat → Nat → Int64}
set_option maxRecDepth 100000 in
set_option maxHeartbeats 4000000 in
theorem m_BT_rule {x v : Int32} {h : zH} (hR : zRep E ad al μ pa h) {t : Nat} : zMetT l y_BT_rule b_BT_rule 4 (some .int) (zR 0) E [.ref (ad 0), .int x, .int v] ad h t (fun r ad' h' => r = some (.int (ruC μ pa x v).1) ∧ ad' = ad ∧ zRep E ad al (ruC μ pa x v).2.1 (ruC μ pa x v).2.2 h') := by
  refine zMetT.of (L := [some (.ref (ad 0)), some (.int x), some (.int v), none]) (by decide +kernel) (Nat.le_of_ble_eq_true rfl) rfl 1 rfl fun X hl I S C Z => ?_
  refine zz_iload_n C d_BT_rule_0 rfl rfl ?_
  refine zz_if_lt (tgt := 25) C d_BT_rule_1 (by decide) (fun c_1 => ?_) (fun c_1 => ?_)
  · refine zz_iconst (v := -1) C d_BT_rule_25 (by decide) ?_
    refine zz_iret C Z d_BT_rule_26 ?_
    unfold ruC
    simp only [c_1, if_true, if_false]
    exact ⟨trivial, trivial, hR⟩
  · refine zz_iload_n C d_BT_rule_4 rfl rfl ?_
    refine zz_gets C S d_BT_rule_5 fk_BT_37 ?_
    refine zz_tlen C S d_BT_rule_8 ?_
    refine zz_icmp_ge (tgt := 25) C d_BT_rule_9 (by decide) (fun c_9 => ?_) (fun c_9 => ?_)
    · refine zz_iconst (v := -1) C d_BT_rule_25 (by decide) ?_
      refine zz_iret C Z d_BT_rule_26 ?_
      unfold ruC
      simp only [c_1, c_9, if_true, if_false]
      exact ⟨trivial, trivial, hR⟩
    · refine zz_iload_n C d_BT_rule_12 rfl rfl ?_
      refine zz_if_lt (tgt := 25) C d_BT_rule_13 (by decide) (fun c_13 => ?_) (fun c_13 => ?_)
      · refine zz_iconst (v := -1) C d_BT_rule_25 (by decide) ?_
        refine zz_iret C Z d_BT_rule_26 ?_
        unfold ruC
        simp only [c_1, c_9, c_13, if_true, if_false]
        exact ⟨trivial, trivial, hR⟩
      · obtain ⟨j, hj, hx⟩ := ((pk_ix x (show 3 < 2 ^ 31 by decide)).resolve_left c_1).resolve_left c_9
        subst hx
        refine zz_iload_n C d_BT_rule_16 rfl rfl ?_
        refine zz_gets C S d_BT_rule_17 fk_BT_37 ?_
        refine zz_iload_n C d_BT_rule_20 rfl rfl ?_
        refine zz_ti (j := j) (v := rkI (nI j)) C S d_BT_rule_21 rfl hj (by rcases (show j = 0 ∨ j = 1 ∨ j = 2 by omega) with rfl | rfl | rfl <;> rfl) ?_
        refine zz_icmp_lt (tgt := 27) C d_BT_rule_22 (by decide) (fun c_22 => ?_) (fun c_22 => ?_)
        · refine zz_aload_n C d_BT_rule_27 rfl rfl ?_
          refine zz_get C d_BT_rule_28 zf_BT_41 ((hR _).trans rfl) rfl ?_
          refine zz_iload_n C d_BT_rule_31 rfl rfl ?_
          refine zz_ialdR (j := j) C hR d_BT_rule_32 (fun _ _ => rfl) rfl hj (by decide) ?_
          refine zz_istore_n C d_BT_rule_33 rfl (by decide) rfl ?_
          refine zz_aload_n C d_BT_rule_34 rfl rfl ?_
          refine zz_get C d_BT_rule_35 zf_BT_41 ((hR _).trans rfl) rfl ?_
          refine zz_iload_n C d_BT_rule_38 rfl rfl ?_
          refine zz_iload_n C d_BT_rule_39 rfl rfl ?_
          refine zz_iastR (j := j) C hR d_BT_rule_40 (fun _ _ => rfl) rfl hj (by decide) (fun h hR => ?_)
          refine zz_iload_n C d_BT_rule_41 rfl rfl ?_
          refine zz_iret C Z d_BT_rule_42 ?_
          unfold ruC
          rw [if_neg c_1, if_neg c_9, if_neg c_13, if_pos c_22, nI_clamp (by omega)]
          exact ⟨rfl, rfl, hR⟩
        · refine zz_iconst (v := -1) C d_BT_rule_25 (by decide) ?_
          refine zz_iret C Z d_BT_rule_26 ?_
          unfold ruC
          simp only [c_1, c_9, c_13, c_22, if_true, if_false]
          exact ⟨trivial, trivial, hR⟩
theorem ru_C {j : Nat} {v : Int32} (hC : CI n rc sz al c V) (hk : kI (va_up V 22 (upd (V 22) j v))) : CI n rc sz al c (va_up V 22 (upd (V 22) j v)) := by
  have e : ∀ k, k ≠ 22 → va_up V 22 (upd (V 22) j v) k = V k := fun k hk => va_up_ne _ _ hk
  obtain ⟨h1, h2, h3, h4, h5⟩ := hC
  exact ⟨h1.fr fun k hk => e k (by omega), hk, h3, h4, h5.fr fun k hk => e k (by omega)⟩
theorem ru_M {j : Nat} {v : Int32} (hM : MM n rc sz V pv μ pa) : MM n rc sz (va_up V 22 (upd (V 22) j v)) pv (va_up (th μ) 51 (upd (μ 51) j v)) pa := by
  have e : ∀ k, k ≠ 22 → va_up V 22 (upd (V 22) j v) k = V k := fun k hk => va_up_ne _ _ hk
  obtain ⟨q1, q2, q3, q4, q5, q6, q7⟩ := hM
  refine ⟨mP.fr (μ := va_up (th μ) 51 (upd (μ 51) j v)) q1 fun k hk => e k (by omega), q2, mT.fr (μ := va_up (th μ) 51 (upd (μ 51) j v)) q3 fun k hk => e k (by omega), q4, ⟨q5.1, fun i hi => ?_⟩, q6, q7⟩
  show upd (μ 51) j v i = upd (V 22) j v i
  by_cases q : i = j
  · subst q; rw [pk_us, pk_us]
  · rw [pk_un q, pk_un q]; exact q5.2 i hi
theorem s_rule {x v : Int32} (hC : CI n rc sz al c V) (hM : MM n rc sz V pv μ pa) : OK al c V (ruC V pv x v).2.1 pv (ruC V pv x v).2.2 (xMet l y_Mo_rule b_Mo_rule 4 (zR 1) E [.ref (ad 40), .int x, .int v] ad al μ pa (ruC V pv x v).1) := by
  have hW := m_Mo_rule (l := l) (E := E) (ad := ad) (al := al) (μ := μ) (pa := pa) (x := x) (v := v)
  revert hW
  unfold ruC ruM
  by_cases c1 : x < 0
  · rw [if_pos c1, show inF x 0 2 = 0 by unfold inF; rw [if_pos c1], if_pos rfl]
    exact fun hW => OK.same hC hM hW
  · rw [if_neg c1]
    by_cases c2 : 3 ≤ x
    · have : (2 : Int32) < x := by
        rw [Int32.le_iff_toInt_le] at c2; rw [Int32.lt_iff_toInt_lt]
        have h3 : (3 : Int32).toInt = 3 := by decide
        have h2 : (2 : Int32).toInt = 2 := by decide
        omega
      rw [if_pos c2, show inF x 0 2 = 0 by unfold inF; rw [if_neg c1, if_pos this], if_pos rfl]
      exact fun hW => OK.same hC hM hW
    · rw [if_neg c2]
      obtain ⟨j, hj, hx⟩ := ((pk_ix x (show 3 < 2 ^ 31 by decide)).resolve_left c1).resolve_left c2
      subst hx
      have hin : ¬ inF (nI j) 0 2 = 0 := by
        rcases (show j = 0 ∨ j = 1 ∨ j = 2 by omega) with rfl | rfl | rfl <;> decide
      rw [if_neg hin, nI_clamp (by omega)]
      by_cases c3 : v < 0
      · rw [if_pos c3, show inF v 0 (liM (nI j)) = 0 by unfold inF; rw [if_pos c3], if_neg (fun q => q rfl)]
        exact fun hW => OK.same hC hM hW
      · rw [if_neg c3]
        have hlr : (rkI (nI j)).toInt = (liM (nI j)).toInt + 1 := by
          rcases (show j = 0 ∨ j = 1 ∨ j = 2 by omega) with rfl | rfl | rfl <;> decide
        have hl3 : (liM (nI j)).toInt ≤ 3 := by
          rcases (show j = 0 ∨ j = 1 ∨ j = 2 by omega) with rfl | rfl | rfl <;> decide
        by_cases c4 : v < rkI (nI j)
        · have c4' : v.toInt < (rkI (nI j)).toInt := Int32.lt_iff_toInt_lt.mp c4
          have c5 : ¬ liM (nI j) < v := by rw [Int32.lt_iff_toInt_lt]; omega
          have hv0 : 0 ≤ v.toInt := by rw [Int32.lt_iff_toInt_lt, i0] at c3; omega
          rw [if_pos c4, show inF v 0 (liM (nI j)) = 1 by unfold inF; rw [if_neg c3, if_neg c5], if_pos (by decide)]
          intro hW
          have e51 : μ 51 j = V 22 j := hM.2.2.2.2.1.2 j hj
          refine ⟨fun k h1 h2 => va_up_ne _ _ (by omega), rfl, n, rc, sz, ru_C hC ?_, xMet.w hW e51 (th_fx.up ⟨by decide, by decide⟩) (ru_M hM)⟩
          obtain ⟨k1, k2, k3⟩ := hC.2.1
          have t0 : (0 : Int32).toInt = 0 := by decide
          have t1 : (1 : Int32).toInt = 1 := by decide
          have t2 : (2 : Int32).toInt = 2 := by decide
          have t3 : (3 : Int32).toInt = 3 := by decide
          have hv4 : v = 0 ∨ v = 1 ∨ v = 2 ∨ v = 3 := by
            rcases (show v.toInt = 0 ∨ v.toInt = 1 ∨ v.toInt = 2 ∨ v.toInt = 3 by omega) with q | q | q | q
            · exact Or.inl (Int32.toInt_inj.mp (by rw [q, t0]))
            · exact Or.inr (Or.inl (Int32.toInt_inj.mp (by rw [q, t1])))
            · exact Or.inr (Or.inr (Or.inl (Int32.toInt_inj.mp (by rw [q, t2]))))
            · exact Or.inr (Or.inr (Or.inr (Int32.toInt_inj.mp (by rw [q, t3]))))
          rcases (show j = 0 ∨ j = 1 ∨ j = 2 by omega) with rfl | rfl | rfl
          · exact ⟨k1, k2, k3⟩
          · exact ⟨k1, hv4, k3⟩
          · refine ⟨k1, k2, ?_⟩
            show v = 0 ∨ v = 1
            have hl : (liM (nI 2)).toInt = 1 := by decide
            rcases hv4 with q | q | q | q
            · exact Or.inl q
            · exact Or.inr q
            · rw [q, t2] at c4'; omega
            · rw [q, t3] at c4'; omega
        · have c4' : ¬ v.toInt < (rkI (nI j)).toInt := fun q => c4 (Int32.lt_iff_toInt_lt.mpr q)
          have c5 : liM (nI j) < v := by rw [Int32.lt_iff_toInt_lt]; omega
          rw [if_neg c4, show inF v 0 (liM (nI j)) = 0 by unfold inF; rw [if_neg c3, if_pos c5], if_neg (fun q => q rfl)]
          exact fun hW => OK.same hC hM hW
end RULE
