/-! THE START -/
theorem zn_in : ∀ q ∈ zn, Cond.methodLinkNest q.1 q.2.1 q.2.2.1 q.2.2.2 ∈ lw_tbl := List.forall_mem_cons.mpr ⟨mk_BT_9, List.forall_mem_cons.mpr ⟨mk_BT_18, List.forall_mem_cons.mpr ⟨mk_BT_25, List.forall_mem_cons.mpr ⟨mk_BT_32, List.forall_mem_cons.mpr ⟨mk_Pf_11, List.forall_mem_cons.mpr ⟨mk_Nd_11, fun _ h => absurd h List.not_mem_nil⟩⟩⟩⟩⟩⟩
theorem zt_tbl {w : Cond} (h : w ∈ zt) : w ∈ lw_tbl := (List.mem_filter.mp h).1
theorem zE_of {s : State} {args : Array Value} (hts : ∀ w ∈ lw_tbl, w.before args s = true) : ∃ E : zE, zK E s := by
  have htz : ∀ w ∈ zt, w.before args s = true := fun w hw => hts w (zt_tbl hw)
  obtain ⟨c0, i0, K0⟩ := u_known (C := R_BT) (T := F_BT) (N := 8) (n := 8) htz iw_BT (htz _ in_BT)
  obtain ⟨c1, i1, K1⟩ := u_known (C := R_Be) (T := F_Be) (N := 3) (n := 3) htz iw_Be (htz _ in_Be)
  obtain ⟨c2, i2, K2⟩ := u_known (C := R_Bx) (T := F_Bx) (N := 2) (n := 2) htz iw_Bx (htz _ in_Bx)
  obtain ⟨c3, i3, K3⟩ := u_known (C := R_Nr) (T := F_Nr) (N := 3) (n := 3) htz iw_Nr (htz _ in_Nr)
  obtain ⟨c4, i4, K4⟩ := u_known (C := R_Nd) (T := F_Nd) (N := 12) (n := 12) htz iw_Nd (htz _ in_Nd)
  obtain ⟨c5, i5, K5⟩ := u_known (C := R_Pr) (T := F_Pr) (N := 2) (n := 2) htz iw_Pr (htz _ in_Pr)
  obtain ⟨c6, i6, K6⟩ := u_known (C := R_Pb) (T := F_Pb) (N := 10) (n := 10) htz iw_Pb (htz _ in_Pb)
  obtain ⟨c7, i7, K7⟩ := u_known (C := R_Pf) (T := F_Pf) (N := 4) (n := 4) htz iw_Pf (htz _ in_Pf)
  obtain ⟨c8, i8, K8⟩ := u_known (C := R_Se) (T := F_Se) (N := 6) (n := 6) htz iw_Se (htz _ in_Se)
  obtain ⟨c9, i9, K9⟩ := u_known (C := R_Tr) (T := F_Tr) (N := 3) (n := 3) htz iw_Tr (htz _ in_Tr)
  obtain ⟨c10, i10, K10⟩ := u_known (C := R_Mo) (T := F_Mo) (N := 31) (n := 31) htz iw_Mo (htz _ in_Mo)
  obtain ⟨a0, ka0, co0, fa0, ha0, kd0⟩ := Cond.arrayClass_spec (htz _ ac_int)
  obtain ⟨a1, ka1, co1, fa1, ha1, kd1⟩ := Cond.arrayClass_spec (htz _ ac_boolean)
  obtain ⟨a2, ka2, co2, fa2, ha2, kd2⟩ := Cond.arrayClass_spec (htz _ ac_long)
  obtain ⟨co3, a3, ka3, fc3, -, ha3, kd3, fa3⟩ := Cond.arrayOver_spec (hts _ ao_nd)
  obtain ⟨co4, a4, ka4, fc4, ha4, kd4, fa4⟩ := Cond.arrayOver_specA (hts _ ao_ii)
  refine ⟨((fun k => match k with | 0 => c0 | 1 => c1 | 2 => c2 | 3 => c3 | 4 => c4 | 5 => c5 | 6 => c6 | 7 => c7 | 8 => c8 | 9 => c9 | _ => c10, fun k => match k with | 0 => i0 | 1 => i1 | 2 => i2 | 3 => i3 | 4 => i4 | 5 => i5 | 6 => i6 | 7 => i7 | 8 => i8 | 9 => i9 | _ => i10), fun k => match k with | 0 => a0 | 1 => a1 | 2 => a2 | 3 => a3 | _ => a4), ⟨fun k q hq => ?_, fun k q hq => ?_⟩, fun q hq => va_Nw.of rfl (hts _ (zn_in q hq))⟩
  · match k, hq with
    | 0, hq => cases hq; exact K0
    | 1, hq => cases hq; exact K1
    | 2, hq => cases hq; exact K2
    | 3, hq => cases hq; exact K3
    | 4, hq => cases hq; exact K4
    | 5, hq => cases hq; exact K5
    | 6, hq => cases hq; exact K6
    | 7, hq => cases hq; exact K7
    | 8, hq => cases hq; exact K8
    | 9, hq => cases hq; exact K9
    | 10, hq => cases hq; exact K10
    | k + 11, hq => simp [zCl] at hq
  · match k, hq with
    | 0, hq => cases hq; exact ⟨fun n z => ⟨fun k h => (by cases h), ka0, ha0, co0, kd0⟩, fa0⟩
    | 1, hq => cases hq; exact ⟨fun n z => ⟨fun k h => (by cases h), ka1, ha1, co1, kd1⟩, fa1⟩
    | 2, hq => cases hq; exact ⟨fun n z => ⟨fun k h => (by cases h), ka2, ha2, co2, kd2⟩, fa2⟩
    | 3, hq => cases hq; exact ⟨fun n z => ⟨fun k h => (by cases h), ka3, ha3, co3, kd3⟩, ⟨ka3, co3, ha3, kd3, fc3, fa3⟩⟩
    | 4, hq => cases hq; exact ⟨fun n z => ⟨fun k h => (by cases h), ka4, ha4, co4, kd4⟩, fa4⟩
    | k + 5, hq => simp [zT] at hq
theorem start_C : CI 0 0 0 0 0 (fun _ _ => 0) := by
  have z0 : (0 : Int32).toInt = 0 := by decide
  refine ⟨⟨⟨rfl, rfl, by omega, by omega⟩, fun k hk => ?_, fun k hk => ?_, fun r hr => ⟨fun k hk => ?_, ?_, Or.inl rfl⟩, fun r _ _ => rfl, rfl, fun r k _ _ _ => rfl⟩, ⟨fun k hk => ?_, Or.inl rfl, Or.inl rfl⟩, fun q => absurd rfl q, fun k hk => ?_, rfl, Nat.le_refl _, by omega, fun j hj => absurd hj (Nat.not_lt_zero _), fun j hj => absurd hj (Nat.not_lt_zero _), fun j hj => absurd hj (Nat.not_lt_zero _)⟩ <;> simp only [z0] <;> omega
theorem start_M : MM 0 0 0 (fun _ _ => 0) (fun _ _ => 0) (fun _ _ => 0) (fun _ _ => 0) :=
  ⟨⟨rfl, rfl, fun k _ => ⟨rfl, rfl, rfl⟩, fun r _ => ⟨rfl, rfl, rfl, fun k _ => rfl⟩⟩, ⟨rfl, rfl⟩, ⟨rfl, fun j hj => absurd hj (Nat.not_lt_zero _)⟩, rfl, ⟨fun k _ => rfl, fun i _ => rfl⟩, fun k _ => ⟨rfl, rfl⟩, fun q => absurd rfl q⟩
theorem zSt_of {s : State} {args : Array Value} (hts : ∀ w ∈ lw_tbl, w.before args s = true) (hgv : (Jvm.Cond.and given_1 narrow_1).before args s = true) : ∃ t, zSt t (fun q => s.heap.size ≤ q) s s.heap := by
  have hA : ∀ a : Nat, a < s.heap.size → ¬ (fun q => s.heap.size ≤ q) a := fun a h => Nat.not_le.mpr h
  have hs := flat_of_before _ hgv
  obtain ⟨t, ht, hT⟩ := va_Tof (tm := .static "BranchTrees" "RULE_KINDS" "[I") (ty := .int) (N := 3) (f := rkV) (by decide) (hs _ (by decide +kernel)) (va_eqt (z := 3) (hs _ (by decide +kernel))) (fun j hj => by
    rcases (show j = 0 ∨ j = 1 ∨ j = 2 by omega) with rfl | rfl | rfl
    · exact va_eqt (z := 3) (hs _ (by decide +kernel))
    · exact va_eqt (z := 4) (hs _ (by decide +kernel))
    · exact va_eqt (z := 2) (hs _ (by decide +kernel))) hA
  exact ⟨t, va_Zref (hts _ (by decide +kernel)) (hts _ (zt_tbl ii_BT)) ht hA, hT, va_AO.of (hts _ ao_nd), va_AOA.of (hts _ ao_ii)⟩
section START
variable {X : zX} {E : zE} {b len t : Nat} {xs : Nat → Int32} {ad : Nat → Nat}
set_option maxRecDepth 100000 in
set_option maxHeartbeats 4000000 in
theorem law_walk (C : zc X E b_La_law 4 "BranchTreesLaw" room_1) (S : zs X t) (V : zlw X b len xs) (hL : len ≤ 2048) : zz X E 4 ad 0 0 0 [some (.ref b), none, none, none] [] [] := by
  have hS : kR E ad [] [] := fun k => rfl
  refine zz_new C 0 (ci := 0) (fs := [.null, .null, .null, .null, .null, .null, .null, .null]) (ty := t_BT) d_La_law_0 ck_La_7 in_BT ii_BT iw_BT ty_BT rfl df_BT ((hS _).trans rfl) (by decide) (by decide) (fun ad1 h1 g1 e1 f1 => ?_)
  have hS := hS.one (c := .inr (0, [.inl (.null), .inl (.null), .inl (.null), .inl (.null), .inl (.null), .inl (.null), .inl (.null), .inl (.null)])) rfl rfl g1 e1 f1 rfl
  have hS : kR E ad1 [(0, .inr (0, [.inl (.null), .inl (.null), .inl (.null), .inl (.null), .inl (.null), .inl (.null), .inl (.null), .inl (.null)]))] _ := hS
  refine zz_dup C d_La_law_3 rfl ?_
  refine zz_callIT C S d_La_law_4 mk_La_9 zy_BT_init (m_BT_init (t := t) hS) ⟨by decide, by decide⟩ ⟨by decide, by decide⟩ rfl rfl (Nat.le_of_ble_eq_true rfl) (fun r2 ad2 h2 q2 => ?_)
  obtain ⟨rfl, g2, hS⟩ := q2
  rw [← g2 0 (by decide)]
  refine zz_astore_n C d_La_law_7 rfl (by decide) rfl ?_
  refine zz_new C 40 (ci := 10) (fs := [.int 0, .int 0, .null, .null, .null, .null, .null, .null, .int 0, .null, .null, .null, .null, .null, .int 0, .int 0, .null, .int 0, .int 0, .null, .null, .null, .null, .null, .null, .null, .null, .null, .null, .null, .int 0]) (ty := t_Mo) d_La_law_8 ck_La_10 in_Mo ii_Mo iw_Mo ty_Mo rfl df_Mo ((hS _).trans rfl) (by decide) (by decide) (fun ad3 h3 g3 e3 f3 => ?_)
  have hS := hS.one (c := .inr (10, [.inl (.int 0), .inl (.int 0), .inl (.null), .inl (.null), .inl (.null), .inl (.null), .inl (.null), .inl (.null), .inl (.int 0), .inl (.null), .inl (.null), .inl (.null), .inl (.null), .inl (.null), .inl (.int 0), .inl (.int 0), .inl (.null), .inl (.int 0), .inl (.int 0), .inl (.null), .inl (.null), .inl (.null), .inl (.null), .inl (.null), .inl (.null), .inl (.null), .inl (.null), .inl (.null), .inl (.null), .inl (.null), .inl (.int 0)])) rfl rfl g3 e3 f3 rfl
  rw [← g3 0 (by decide)]
  have hS : kR E ad3 [(0, .inr (0, [.inr 1, .inr 9, .inr 11, .inr 14, .inr 17, .inr 18, .inr 22, .inr 23])), (1, .inr (6, [.inr 2, .inr 3, .inr 4, .inr 5, .inr 6, .inr 7, .inr 8, .inl (.int 0), .inl (.int 0), .inl (.int 0)])), (2, .inl (0, 8)), (3, .inl (0, 8)), (4, .inl (0, 8)), (5, .inl (0, 16)), (6, .inl (0, 16)), (7, .inl (1, 16)), (8, .inl (4, 16)), (24, .inl (0, 8)), (25, .inl (0, 8)), (26, .inl (0, 8)), (27, .inl (0, 8)), (28, .inl (0, 8)), (29, .inl (0, 8)), (30, .inl (0, 8)), (31, .inl (0, 8)), (32, .inl (0, 8)), (33, .inl (0, 8)), (34, .inl (0, 8)), (35, .inl (0, 8)), (36, .inl (0, 8)), (37, .inl (0, 8)), (38, .inl (0, 8)), (39, .inl (0, 8)), (9, .inr (1, [.inr 10, .inl (.int 0), .inl (.int 0)])), (10, .inl (0, 8)), (11, .inr (5, [.inr 12, .inr 13])), (12, .inl (2, 8)), (13, .inl (0, 8)), (14, .inr (9, [.inr 15, .inl (.int 0), .inl (.int 0)])), (15, .inl (3, 600)), (22, .inl (0, 3)), (23, .inl (0, 8)), (16, .inr (3, [.inr 1, .inr 9, .inl (.int 0)])), (17, .inr (8, [.inr 1, .inr 9, .inr 11, .inr 14, .inr 16, .inr 22])), (18, .inr (7, [.inr 1, .inr 14, .inr 16, .inr 19])), (19, .inr (2, [.inr 20, .inr 21])), (20, .inl (0, 8)), (21, .inl (0, 8)), (40, .inr (10, [.inl (.int 0), .inl (.int 0), .inl (.null), .inl (.null), .inl (.null), .inl (.null), .inl (.null), .inl (.null), .inl (.int 0), .inl (.null), .inl (.null), .inl (.null), .inl (.null), .inl (.null), .inl (.int 0), .inl (.int 0), .inl (.null), .inl (.int 0), .inl (.int 0), .inl (.null), .inl (.null), .inl (.null), .inl (.null), .inl (.null), .inl (.null), .inl (.null), .inl (.null), .inl (.null), .inl (.null), .inl (.null), .inl (.int 0)]))] _ := hS
  refine zz_dup C d_La_law_11 rfl ?_
  refine zz_callI C d_La_law_12 mk_La_12 zy_Mo_init (m_Mo_init hS) ⟨by decide, by decide⟩ ⟨by decide, by decide⟩ rfl rfl (Nat.le_of_ble_eq_true rfl) (fun r4 ad4 h4 q4 => ?_)
  obtain ⟨rfl, g4, hS⟩ := q4
  rw [← g4 0 (by decide), ← g4 40 (by decide)]
  refine zz_astore_n C d_La_law_15 rfl (by decide) rfl ?_
  refine zz_iconst (v := 0) C d_La_law_16 (by decide) ?_
  refine zz_istore_n C d_La_law_17 rfl (by decide) rfl ?_
  exact law_loop C S V hL len 0 0 0 0 0 0 _ _ _ (by omega) (by omega) (Nat.zero_le _) start_C start_M _ (all_made hS)
end START
set_option maxRecDepth 100000 in
set_option maxHeartbeats 4000000 in
theorem whole_start {p : Program} {e : Env} {s : State} {m : MethodId} {below : List Frame} {meth : Method} {c : Code} (l : Launch) {b L : Nat} {xs : Nat → Int32} (hL : L ≤ 2048) (C0 : lw_At p s m meth c b L xs) : W p l e room_1 s m #[Value.ref b] below meth c s.heap [] 0 0 (lw_Z below #[Value.ref b] s) (entryFrame m ([Value.ref b] : List Value).toArray 4) := by
  obtain ⟨hx, hb, hr, hml, hown, hts, hX, hbl, hlocks, hgv⟩ := C0
  obtain ⟨E, hK⟩ := zE_of hts
  obtain ⟨t, hT⟩ := zSt_of hts hgv
  have hl := lv_entry [Value.ref b] (n := 4) (Nat.le_of_ble_eq_true rfl)
  rw [lg_entry_eq]
  have K := law_walk (X := (p, l, e, room_1, s, m, #[Value.ref b], below, meth, c, lw_Z below #[Value.ref b] s, fun q => s.heap.size ≤ q)) (E := E) (t := t) (b := b) (len := L) (xs := xs) (ad := fun _ => 0)
    ⟨⟨hx, hb, hml, hown, fun w hw => hts w (zt_tbl hw)⟩, hK, fun q hq => hq, rfl⟩ hT ⟨rfl, hr, hlocks, rfl, fun q hq => hq, hX, hbl, Nat.not_le.mpr hbl⟩ hL
  exact K s.heap [] _ (fun k q h => by simp [zw] at h) ⟨fun i j x y h => by simp [zw] at h, fun k q h => by simp [zw] at h⟩ va_S.rf (zL.of hl fun j w h => zav_ok (vs := [Value.ref b]) (n := 3) rfl h)
