/-! MODEL: work -/
theorem nI_nn {a : Nat} (h : a < 2 ^ 31) : ¬ nI a < 0 := i32_nlt (nI_le (a := 0) (Nat.zero_le a) h)
theorem m1_ne {a : Nat} (h : a < 2 ^ 31) : ¬ (-1 : Int32) = nI a := fun q => nI_nn h (q ▸ (by decide))
theorem nI_ne2 {a : Nat} (h : a < 2 ^ 31) : ¬ nI a = -2 := fun q => nI_nn h (q ▸ (by decide))
theorem zz_callVe {X : zX} {E : zE} {cc : ByteArray} {nL : Nat} {own : String} {rm : Room} {ad : Nat → Nat} {kc ks pc : Nat} {L : List (Option Value)} {st : List Value} {h : zH} {al : Nat} {μ : Nat → Nat → Int32} {pa : Nat → Nat → Int64} {y : MethodName} {b : ByteArray} {maxL n index kb ci N e : Nat} {ret : Option FieldType} {As rest : List Value} {fs : List Value} {T : u_T} {P : Int32 → Prop} (C : zc X E cc nL own rm) (hR : zRep E ad al μ pa h) (hd : decode cc pc = .ok (.invokevirtual index, 3)) (hl : Cond.methodLink own index y ∈ zt) (hY : zy y b maxL ret n) (hM : eMet X.2.1 y b maxL ret (zR e) E (.ref (ad kb) :: As) ad al μ pa P) (hroom : e + 1 ≤ rm.frames ∧ 8 + (maxL + 11) + 40 * e ≤ rm.locals) (hcells : kc ≤ rm.cells ∧ ks ≤ rm.slots) (hrecv : zb E ad al kb (μ kb) (pa kb) = some (.inr (ci, fs))) (hc : zCl[ci]? = some (y.cls, T, N)) (hst : st = As.reverse ++ .ref (ad kb) :: rest) (hn : As.length = n) (hwd : (rest.map fun v => v.category).sum ≤ 8) (kk : ∀ x : Int32, P x → zz X E nL ad kc ks (pc + 3) L (.int x :: rest) h) : zz X E nL ad kc ks pc L st h :=
  zz_callV C hd hl hY (hM h hR) hroom hcells ((hR kb).trans hrecv) hc hst hn hwd fun r9 ad9 h9 q => by
    obtain ⟨x, rfl, q1, rfl, rfl⟩ := q
    exact kk x q1
theorem coF_op (lo hi mer : Nat → Int32) : ∀ i : Nat, (coF lo hi mer i).1 = -2 ∨ ∃ q : Nat, q < i ∧ (coF lo hi mer i).1 = nI q ∧ ¬ hi q ≤ lo q
  | 0 => Or.inl rfl
  | i + 1 => by
    have ih := coF_op lo hi mer i
    simp only [coF]
    by_cases c1 : hi i ≤ lo i
    · rw [if_pos c1]
      rcases ih with h | ⟨q, h1, h2⟩
      · exact Or.inl h
      · exact Or.inr ⟨q, by omega, h2⟩
    · rw [if_neg c1]
      by_cases c2 : (coF lo hi mer i).1 = -2
      · rw [if_pos c2]; exact Or.inr ⟨i, by omega, rfl, c1⟩
      · rw [if_neg c2]
        by_cases c3 : mer i ≤ (coF lo hi mer i).2
        · rw [if_pos c3]
          rcases ih with h | ⟨q, h1, h2⟩
          · exact Or.inl h
          · exact Or.inr ⟨q, by omega, h2⟩
        · rw [if_neg c3]; exact Or.inr ⟨i, by omega, rfl, c1⟩
theorem i64_add {x y : Int32} (h1 : -2147483648 ≤ x.toInt + y.toInt) (h2 : x.toInt + y.toInt < 2147483648) : (x + y).toInt64 = x.toInt64 + y.toInt64 := by
  apply Int64.toInt_inj.mp
  rw [Int32.toInt_toInt64, tI_add h1 h2, Int64.toInt_add, Int32.toInt_toInt64, Int32.toInt_toInt64]
  rw [Int.bmod_eq_of_le (by omega) (by omega)]
def wkP (pa : Nat → Nat → Int64) (a : Nat) (g : Int32) : Nat → Nat → Int64 := va_up pa 43 (vp_updL (pa 43) a (pa 43 a + g.toInt64))
def bmp (m : Nat → Nat → Int32) : Nat → Nat → Int32 := va_up m 40 (upd (m 40) 18 (m 40 18 + 1))
section WORKM
variable {n rc sz al c : Nat} {V μ : Nat → Nat → Int32} {pv pa : Nat → Nat → Int64}
theorem MM.bump (hM : MM n rc sz V pv μ pa) : MM n rc sz (wk1 V) pv (bmp μ) pa := by
  obtain ⟨q1, q2, q3, q4, q5, q6, q7⟩ := hM
  refine ⟨mP.fr (μ := bmp μ) q1 fun k hk => va_up_ne _ _ (by omega), q2, mT.fr (μ := bmp μ) q3 fun k hk => va_up_ne _ _ (by omega), ?_, q5, q6, q7⟩
  show μ 40 18 + 1 = V 14 2 + 1
  rw [q4]
theorem CI.bump (hC : CI n rc sz al c V) : CI n rc sz al c (wk1 V) := by
  have e : ∀ k, k ≠ 14 → wk1 V k = V k := fun k hk => va_up_ne _ _ hk
  obtain ⟨h1, h2, h3, h4, t1, t2, t3, t4, t5, t6⟩ := hC
  refine ⟨h1.fr fun k hk => e k (by omega), h2, h3, h4, t1, t2, t3, fun j hj => by rw [e _ (by omega)]; exact t4 j hj, fun j hj => ?_, fun j hj => (t6 j hj).fr (e 2 (by omega)) (e 3 (by omega)) (fun k hk => e k (by omega))⟩
  rw [e (100 + 4 * j + 2) (by omega), e (100 + 4 * j + 3) (by omega), e (100 + 4 * j) (by omega), e 4 (by omega)]
  exact t5 j hj
theorem CI.st {p : Nat} {x : Int32} (hC : CI n rc sz al c V) : CI n rc sz al c (va_up V (100 + 4 * p) (upd (V (100 + 4 * p)) 7 x)) := by
  have h := CI.nd (p := p) (x := x) (y := V (100 + 4 * p) 10) hC
  have e : upd (upd (V (100 + 4 * p)) 7 x) 10 (V (100 + 4 * p) 10) = upd (V (100 + 4 * p)) 7 x := by
    have := upd_id (upd (V (100 + 4 * p)) 7 x) 10
    rw [pk_un (by decide)] at this; exact this
  rw [e] at h; exact h
theorem MM.st {p : Nat} {x : Int32} (hM : MM n rc sz V pv μ pa) (hp : p < sz) : MM n rc sz (va_up V (100 + 4 * p) (upd (V (100 + 4 * p)) 7 x)) pv (va_up μ 57 (upd (μ 57) p x)) pa := by
  have h := MM.nd (p := p) (x := x) (y := V (100 + 4 * p) 10) hM
  have e : upd (upd (V (100 + 4 * p)) 7 x) 10 (V (100 + 4 * p) 10) = upd (V (100 + 4 * p)) 7 x := by
    have := upd_id (upd (V (100 + 4 * p)) 7 x) 10
    rw [pk_un (by decide)] at this; exact this
  rw [e, ← (hM.2.2.1.2 p hp).2.2.2.2.2.2.1, upd_id] at h
  have e2 := va_up_id (va_up μ 57 (upd (μ 57) p x)) 59
  rw [va_up_ne _ _ (by decide)] at e2
  rw [e2] at h; exact h
theorem low_bd {j : Nat} (hC : CI n rc sz al c V) (hj : j < sz) : -8000 ≤ (V (100 + 4 * j) 8).toInt ∧ (V (100 + 4 * j) 8).toInt ≤ 8000 := by
  have h8 := hC.n8
  obtain ⟨b1, b2⟩ := hC.tB j hj
  have := ls_bd n h8 (fc_1 hC.fc) b1
  rw [b2, bl_ls]
  omega
theorem gn_bd {q p : Nat} (hC : CI n rc sz al c V) (hq : q < sz) (hp : p < sz) : -16000 ≤ (gnF V q p).toInt ∧ (gnF V q p).toInt ≤ 16000 := by
  have h1 := low_bd hC hq
  have h2 := low_bd hC hp
  unfold gnF
  split
  · have : (50 : Int32).toInt = 50 := by decide
    omega
  · rw [tI_sub (by omega) (by omega)]; omega
theorem MM.price {a : Nat} {g : Int32} (hM : MM n rc sz V pv μ pa) (ha : a < 8) : MM n rc sz V (ptP pv a g) μ (wkP pa a g) := by
  obtain ⟨q1, q2, q3, q4, q5, q6, q7⟩ := hM
  refine ⟨q1, q2, q3, q4, q5, fun k hk => ⟨?_, (q6 k hk).2⟩, q7⟩
  show vp_updL (pa 43) a (pa 43 a + g.toInt64) k = vp_updL (pv 12) a (pv 12 a + g.toInt64) k
  unfold vp_updL
  rw [(q6 k hk).1, (q6 a ha).1]
theorem MM.pvE {qv : Nat → Nat → Int64} (hM : MM n rc sz V pv μ pa) (e : qv 12 = pv 12) : MM n rc sz V qv μ pa := by
  obtain ⟨q1, q2, q3, q4, q5, q6, q7⟩ := hM
  exact ⟨q1, q2, q3, q4, q5, by unfold mX; rw [e]; exact q6, q7⟩
theorem ptP_2 {a : Nat} {g1 g2 : Int32} (h1 : -16000 ≤ g1.toInt ∧ g1.toInt ≤ 16000) (h2 : -16000 ≤ g2.toInt ∧ g2.toInt ≤ 16000) : ptP pv a (0 + g1 + g2) 12 = ptP (ptP pv a g1) a g2 12 := by
  have e0 : (0 : Int32) + g1 = g1 := by grind
  unfold ptP
  rw [va_up_self, va_up_self, va_up_self, e0, i64_add (by omega) (by omega)]
  funext k
  unfold vp_updL
  by_cases e : k = a
  · subst e; simp only [if_true]; grind
  · simp only [if_neg e]
theorem CI.tm {a : Nat} (hC : CI n rc sz al c V) (ha : a < 8) (hc : c ≤ 1000000) : CI n rc sz al (c + 1) (va_up V 13 (upd (V 13) a (V 13 a + 2))) := by
  have e : ∀ k, k ≠ 13 → va_up V 13 (upd (V 13) a (V 13 a + 2)) k = V k := fun k hk => va_up_ne _ _ hk
  obtain ⟨h1, h2, h3, h4, h5⟩ := hC
  refine ⟨h1.fr fun k hk => e k (by omega), h2, h3, fun k hk => ?_, h5.fr fun k hk => e k (by omega)⟩
  show 0 ≤ (upd (V 13) a (V 13 a + 2) k).toInt ∧ (upd (V 13) a (V 13 a + 2) k).toInt ≤ _
  have h2' : (2 : Int32).toInt = 2 := by decide
  have ha' := h4 a ha
  have hk' := h4 k hk
  by_cases q : k = a
  · subst q; rw [pk_us, tI_add (by omega) (by omega)]; omega
  · rw [pk_un q]; omega
theorem MM.tm {a : Nat} {x : Int32} (hM : MM n rc sz V pv μ pa) : MM n rc sz (va_up V 13 (upd (V 13) a x)) pv (va_up μ 44 (upd (μ 44) a x)) pa := by
  have e : ∀ k, k ≠ 13 → va_up V 13 (upd (V 13) a x) k = V k := fun k hk => va_up_ne _ _ hk
  obtain ⟨q1, q2, q3, q4, q5, q6, q7⟩ := hM
  refine ⟨mP.fr (μ := va_up μ 44 (upd (μ 44) a x)) q1 fun k hk => e k (by omega), q2, mT.fr (μ := va_up μ 44 (upd (μ 44) a x)) q3 fun k hk => e k (by omega), q4, q5, fun k hk => ⟨(q6 k hk).1, ?_⟩, q7⟩
  show upd (μ 44) a x k = upd (V 13) a x k
  by_cases q : k = a
  · subst q; rw [pk_us, pk_us]
  · rw [pk_un q, pk_un q]; exact (q6 k hk).2
/-- the node's values are the best -/
def w57 (μ : Nat → Nat → Int32) (j : Nat) : Nat → Nat → Int32 := va_up μ 57 (upd (μ 57) j 4)
def wt1 (μ : Nat → Nat → Int32) (j : Nat) (x : Int32) : Nat → Nat → Int32 := va_up (va_up (w57 μ j) 40 (upd (w57 μ j 40) 14 1)) 40 (upd (va_up (w57 μ j) 40 (upd (w57 μ j 40) 14 1) 40) 15 x)
def wt2 (μ : Nat → Nat → Int32) (j : Nat) (x : Int32) (i : Nat) : Nat → Nat → Int32 := va_up (wt1 μ j x) 52 (cpn i (fun k => μ 60 (8 * j + k)) (μ 52))
theorem CI.take {j : Nat} {x : Int32} (hC : CI n rc sz al c V) (hx : -8000 ≤ x.toInt ∧ x.toInt ≤ 8000) : CI n rc sz al c (tkF V (100 + 4 * j + 2) x) := by
  refine ⟨hC.1.fr fun k hk => tk_fr (by omega) (by omega), hC.2.1, fun _ => hx, hC.2.2.2.1, hC.2.2.2.2.fr fun k hk => tk_fr (by omega) (by omega)⟩
theorem MM.take {j : Nat} {x : Int32} (hM : MM n rc sz V pv μ pa) (h8 : n ≤ 8) (hj : j < sz) : MM n rc sz (tkF (va_up V (100 + 4 * j) (upd (V (100 + 4 * j)) 7 4)) (100 + 4 * j + 2) x) pv (wt2 μ j x n) pa := by
  have hu := (hM.2.2.1.2 j hj).2.2.2.2.2.2.2
  obtain ⟨m1, m2, m3, m4, m5, m6, m7⟩ := hM.st (x := 4) hj
  refine ⟨mP.fr (μ := wt2 μ j x n) m1 fun k hk => tk_fr (by omega) (by omega), ⟨rfl, rfl⟩, mT.fr (μ := wt2 μ j x n) m3 fun k hk => tk_fr (by omega) (by omega), m4, m5, m6, fun _ k hk => ?_⟩
  show cpn n (fun k => μ 60 (8 * j + k)) (μ 52) k = cpn 8 (va_up V (100 + 4 * j) (upd (V (100 + 4 * j)) 7 4) (100 + 4 * j + 2)) _ k
  unfold cpn
  rw [if_pos hk, if_pos (by omega), va_up_ne _ _ (by omega)]
  exact (hu k hk).1
theorem nnF_fx {p a : Nat} {sd v : Int32} {W : Nat → Nat → Int32} : fx μ pa (nnF W (nnC μ sz n p a sd v) sz n rc) pa := by
  have h0 : fx μ pa (nn0 μ sz (nI p) (nI a) sd v) pa := (((((fx.rf.up ⟨by decide, by decide⟩).up ⟨by decide, by decide⟩).up ⟨by decide, by decide⟩).up ⟨by decide, by decide⟩).up ⟨by decide, by decide⟩).up ⟨by decide, by decide⟩
  have h1 : fx μ pa (nnC μ sz n p a sd v) pa := h0.tr (fx.sc (tbF_sc.tr cutF_sc))
  unfold nnF nn2 nn1 setM
  exact (((((((h1).up ⟨by decide, by decide⟩).up ⟨by decide, by decide⟩).up ⟨by decide, by decide⟩).up ⟨by decide, by decide⟩).up ⟨by decide, by decide⟩).up ⟨by decide, by decide⟩).up ⟨by decide, by decide⟩
theorem nnR_fx {W : Nat → Nat → Int32} : fx μ pa (nnF W (nnR μ sz n) sz n rc) pa := by
  have h0 : fx μ pa (nn0 μ sz (-1) (-1) 0 0) pa := (((((fx.rf.up ⟨by decide, by decide⟩).up ⟨by decide, by decide⟩).up ⟨by decide, by decide⟩).up ⟨by decide, by decide⟩).up ⟨by decide, by decide⟩).up ⟨by decide, by decide⟩
  have h1 : fx μ pa (nnR μ sz n) pa := h0.tr (fx.sc tbF_sc)
  unfold nnF nn2 nn1 setM
  exact (((((((h1).up ⟨by decide, by decide⟩).up ⟨by decide, by decide⟩).up ⟨by decide, by decide⟩).up ⟨by decide, by decide⟩).up ⟨by decide, by decide⟩).up ⟨by decide, by decide⟩).up ⟨by decide, by decide⟩
theorem kd_st {p a : Nat} {sd mid : Int32} : kdF V al sz p a n rc sd mid (100 + 4 * sz) 7 = 0 ∨ kdF V al sz p a n rc sd mid (100 + 4 * sz) 7 = 2 := by
  unfold kdF
  rw [ns_nd, pk_un (by decide), pk_un (by decide), pk_us]
  split
  · exact Or.inl rfl
  · exact Or.inr rfl
end WORKM
section MWORK
variable {l : Launch} {E : zE} {ad : Nat → Nat} {n rc sz al al2 c j : Nat} {V μ : Nat → Nat → Int32} {pv pa : Nat → Nat → Int64}
set_option maxRecDepth 100000 in
set_option maxHeartbeats 4000000 in
theorem tl_Mo_work {X : zX} (C : zc X E b_Mo_work 8 "BranchTreesModel" (zR 4)) {p a : Nat} (hC : CI n rc (sz + 1) al c V) (hM : MM n rc (sz + 1) V pv μ pa) (hp : p < sz) (ha : a < 8) (hst : V (100 + 4 * sz) 7 = 0 ∨ V (100 + 4 * sz) 7 = 2) {w4 w5 w7 : Option Value} {x6 : Int32}
    (kn : ∀ m h, fx μ pa m (wkP pa a (gnF V sz p)) → MM n rc (sz + 1) V (ptP pv a (gnF V sz p)) m (wkP pa a (gnF V sz p)) → zRep E ad al2 m (wkP pa a (gnF V sz p)) h → zz X E 8 ad 0 0 270 [some (.ref (ad 40)), some (.int (nI p)), some (.int (V (100 + 4 * p) 8)), some (.int (nI a)), w4, w5, some (.int x6), some (.int (nI sz))] [] h) :
    ∀ h, zRep E ad al2 μ pa h → zz X E 8 ad 0 0 230 [some (.ref (ad 40)), some (.int (nI p)), some (.int (V (100 + 4 * p) 8)), some (.int (nI a)), w4, w5, some (.int x6), w7] [.int (nI sz)] h := by
  intro h hR
  have h6 := hC.sz6
  have u5 := (hM.2.2.1.2 sz (Nat.lt_succ_self sz)).2.2.2.2.1
  refine zz_istore C d_Mo_work_230 (by decide) rfl ?_
  refine zz_aload_n C d_Mo_work_232 rfl rfl ?_
  refine zz_get C d_Mo_work_233 zf_Mo_20 ((hR _).trans rfl) rfl ?_
  refine zz_iload_n C d_Mo_work_236 rfl rfl ?_
  refine zz_aload_n C d_Mo_work_237 rfl rfl ?_
  refine zz_get C d_Mo_work_238 zf_Mo_20 ((hR _).trans rfl) rfl ?_
  refine zz_iload_n C d_Mo_work_241 rfl rfl ?_
  refine zz_laldR (j := a) C hR d_Mo_work_242 (fun _ _ => rfl) rfl ha (by decide) ?_
  refine zz_aload_n C d_Mo_work_243 rfl rfl ?_
  refine zz_get C d_Mo_work_244 zf_Mo_64 ((hR _).trans rfl) rfl ?_
  refine zz_iload C d_Mo_work_247 rfl ?_
  refine zz_ialdV (j := sz) C hR (V (100 + 4 * sz) 7) d_Mo_work_249 (fun _ _ => rfl) rfl (by omega) (by decide) u5 ?_
  refine zz_iconst (v := 2) C d_Mo_work_250 (by decide) ?_
  refine zz_icmp_ne (tgt := 259) C d_Mo_work_251 (by decide) (fun c_251 => ?_) (fun c_251 => ?_)
  · refine zz_aload_n C d_Mo_work_259 rfl rfl ?_
    refine zz_iload C d_Mo_work_260 rfl ?_
    refine zz_callVs (e := 1) C hR d_Mo_work_262 mk_Mo_168 zy_Mo_lower (m_Mo_lowerV hC.n8 hM.1 hM.2.2.1 h6 hC.tB hC.fc (Nat.lt_succ_self sz)) ⟨by decide, by decide⟩ ⟨Nat.zero_le _, Nat.zero_le _⟩ rfl rfl rfl rfl (Nat.le_of_ble_eq_true rfl) (fun h m hs hR => ?_)
    have hM := hM.sc hs
    have eg : gnF V sz p = V (100 + 4 * sz) 8 - V (100 + 4 * p) 8 := by
      rcases hst with q | q
      · unfold gnF; rw [if_neg (fun z => z q)]
      · exact absurd q c_251
    rw [eg] at kn
    refine zz_iload_n C d_Mo_work_265 rfl rfl ?_
    refine zz_isub C d_Mo_work_266 ?_
    refine zz_i2l C d_Mo_work_267 ?_
    refine zz_ladd C d_Mo_work_268 ?_
    refine zz_lastR (j := a) C hR d_Mo_work_269 (fun _ _ => rfl) rfl ha (by decide) (fun h hR => ?_)
    exact kn m h (fx.upL (fx.sc hs)) (hM.price ha) hR
  · have eg : gnF V sz p = 50 := by unfold gnF; rw [if_pos (by rw [c_251]; decide)]
    rw [eg] at kn
    refine zz_bipush (v := 50) C d_Mo_work_254 (by decide) ?_
    refine zz_goto (tgt := 267) C d_Mo_work_256 (by decide) ?_
    refine zz_i2l C d_Mo_work_267 ?_
    refine zz_ladd C d_Mo_work_268 ?_
    refine zz_lastR (j := a) C hR d_Mo_work_269 (fun _ _ => rfl) rfl ha (by decide) (fun h hR => ?_)
    exact kn μ h (fx.upL fx.rf) (hM.price ha) hR
set_option maxRecDepth 100000 in
set_option maxHeartbeats 4000000 in
theorem st_Mo_work {X : zX} (C : zc X E b_Mo_work 8 "BranchTreesModel" (zR 4)) {p a : Nat} {sd mid : Int32} (hC : CI n rc sz al c V) (hM : MM n rc sz V pv μ pa) (h6 : sz < 600) (hp : p < sz) (ha : a < n) (hsd : sd = 0 ∨ sd = 1) (l1 : (V (100 + 4 * p + 2) a).toInt ≤ mid.toInt) (l2 : (mid + 1).toInt ≤ (V (100 + 4 * p + 3) a).toInt) {x5 : Int32} {w6 w7 : Option Value}
    (kn : ∀ m h, CI n rc (sz + 1) (grA al sz) c (kdF V al sz p a n rc sd mid) → fx μ pa m (wkP pa a (gnF (kdF V al sz p a n rc sd mid) sz p)) → MM n rc (sz + 1) (kdF V al sz p a n rc sd mid) (ptP pv a (gnF (kdF V al sz p a n rc sd mid) sz p)) m (wkP pa a (gnF (kdF V al sz p a n rc sd mid) sz p)) → zRep E ad al2 m (wkP pa a (gnF (kdF V al sz p a n rc sd mid) sz p)) h → zz X E 8 ad 0 0 270 [some (.ref (ad 40)), some (.int (nI p)), some (.int (V (100 + 4 * p) 8)), some (.int (nI a)), some (.int mid), some (.int x5), some (.int sd), some (.int (nI sz))] [] h) :
    ∀ h, zRep E ad al2 μ pa h → zz X E 8 ad 0 0 206 [some (.ref (ad 40)), some (.int (nI p)), some (.int (V (100 + 4 * p) 8)), some (.int (nI a)), some (.int mid), some (.int x5), w6, w7] [.int sd] h := by
  intro h hR
  have h8 := hC.n8
  have m0 : mid + 0 = mid := by grind
  have KK : ∀ v, v = mid + sd → CI n rc (sz + 1) (grA al sz) c (kdF V al sz p a n rc sd mid) ∧ MM n rc (sz + 1) (kdF V al sz p a n rc sd mid) pv (nnF V (nnC μ sz n p a sd v) sz n rc) pa ∧ bdR n (nnC μ sz n p a sd v 62) (nnC μ sz n p a sd v 63) := by
    intro v hv
    subst hv
    refine kd_ok hC hM h6 hp ha (fun z => ?_) (fun z => ?_)
    · rw [z, m0]; exact l1
    · rcases hsd with q | q
      · exact absurd q z
      · rw [q]; exact l2
  have e8 : kdF V al sz p a n rc sd mid (100 + 4 * p) 8 = V (100 + 4 * p) 8 := by rw [kdF_fr (by omega) (by omega) (by omega)]
  have hst := kd_st (V := V) (al := al) (sz := sz) (p := p) (a := a) (n := n) (rc := rc) (sd := sd) (mid := mid)
  rcases hsd with rfl | rfl
  · obtain ⟨k1, k2, k3⟩ := KK mid m0.symm
    have hnn := m_Mo_newNode_child (l := X.2.1) (E := E) (ad := ad) (al := al2) (μ := μ) (pa := pa) hC.vR hM.1 hC.sR hM.2.1 hM.S h6 hp (show a < 8 by omega) k3
    have K := tl_Mo_work C (al2 := al2) (ad := ad) (w4 := some (.int mid)) (w5 := some (.int x5)) (w7 := w7) (x6 := 0) k1 k2 hp (show a < 8 by omega) hst (fun m h f1 f2 f3 => by rw [e8]; exact kn m h k1 (nnF_fx.tr f1) f2 f3)
    rw [e8] at K
    refine zz_istore C d_Mo_work_206 (by decide) rfl ?_
    refine zz_aload_n C d_Mo_work_208 rfl rfl ?_
    refine zz_iload_n C d_Mo_work_209 rfl rfl ?_
    refine zz_iload_n C d_Mo_work_210 rfl rfl ?_
    refine zz_iload C d_Mo_work_211 rfl ?_
    refine zz_iload C d_Mo_work_213 rfl ?_
    refine zz_if_ne (tgt := 223) C d_Mo_work_215 (by decide) (fun c_215 => ?_) (fun c_215 => ?_)
    · exact absurd rfl c_215
    · refine zz_iload C d_Mo_work_218 rfl ?_
      refine zz_goto (tgt := 227) C d_Mo_work_220 (by decide) ?_
      refine zz_callVw (e := 3) C hR d_Mo_work_227 mk_Mo_181 zy_Mo_newNode hnn ⟨by decide, by decide⟩ ⟨Nat.zero_le _, Nat.zero_le _⟩ rfl rfl rfl rfl (Nat.le_of_ble_eq_true rfl) (fun h hR => ?_)
      exact K h hR
  · obtain ⟨k1, k2, k3⟩ := KK (mid + 1) rfl
    have hnn := m_Mo_newNode_child (l := X.2.1) (E := E) (ad := ad) (al := al2) (μ := μ) (pa := pa) hC.vR hM.1 hC.sR hM.2.1 hM.S h6 hp (show a < 8 by omega) k3
    have K := tl_Mo_work C (al2 := al2) (ad := ad) (w4 := some (.int mid)) (w5 := some (.int x5)) (w7 := w7) (x6 := 1) k1 k2 hp (show a < 8 by omega) hst (fun m h f1 f2 f3 => by rw [e8]; exact kn m h k1 (nnF_fx.tr f1) f2 f3)
    rw [e8] at K
    refine zz_istore C d_Mo_work_206 (by decide) rfl ?_
    refine zz_aload_n C d_Mo_work_208 rfl rfl ?_
    refine zz_iload_n C d_Mo_work_209 rfl rfl ?_
    refine zz_iload_n C d_Mo_work_210 rfl rfl ?_
    refine zz_iload C d_Mo_work_211 rfl ?_
    refine zz_iload C d_Mo_work_213 rfl ?_
    refine zz_if_ne (tgt := 223) C d_Mo_work_215 (by decide) (fun c_215 => ?_) (fun c_215 => ?_)
    · refine zz_iload C d_Mo_work_223 rfl ?_
      refine zz_iconst (v := 1) C d_Mo_work_225 (by decide) ?_
      refine zz_iadd C d_Mo_work_226 ?_
      refine zz_callVw (e := 3) C hR d_Mo_work_227 mk_Mo_181 zy_Mo_newNode hnn ⟨by decide, by decide⟩ ⟨Nat.zero_le _, Nat.zero_le _⟩ rfl rfl rfl rfl (Nat.le_of_ble_eq_true rfl) (fun h hR => ?_)
      exact K h hR
    · exact absurd c_215 (by decide)
set_option maxRecDepth 100000 in
set_option maxHeartbeats 4000000 in
theorem lpM_Mo_work {X : zX} (C : zc X E b_Mo_work 8 "BranchTreesModel" (zR 4)) {a : Nat} (hj : j < 600) (ha : a < 8) (u1 : μ 60 (8 * j + a) = V (100 + 4 * j + 2) a) (u2 : μ 61 (8 * j + a) = V (100 + 4 * j + 3) a) (b1 : -50 ≤ (V (100 + 4 * j + 2) a).toInt) (b2 : (V (100 + 4 * j + 2) a).toInt ≤ (V (100 + 4 * j + 3) a).toInt) (b3 : (V (100 + 4 * j + 3) a).toInt ≤ 50) {x2 : Int32} {w5 w6 w7 : Option Value} {h : zH} (hR : zRep E ad al2 μ pa h)
    (kn : zz X E 8 ad 0 0 161 [some (.ref (ad 40)), some (.int (nI j)), some (.int (x2)), some (.int (nI a)), some (.int (ptMid V j a)), w5, w6, w7] [] h) :
    ∀ (d : Nat) (x : Int32), ((ptMid V j a).toInt - x.toInt).toNat = d → (V (100 + 4 * j + 2) a).toInt ≤ x.toInt → x.toInt ≤ (ptMid V j a).toInt → zz X E 8 ad 0 0 123 [some (.ref (ad 40)), some (.int (nI j)), some (.int (x2)), some (.int (nI a)), some (.int x), w5, w6, w7] [] h := by
  have es : (V (100 + 4 * j + 2) a + V (100 + 4 * j + 3) a).toInt = (V (100 + 4 * j + 2) a).toInt + (V (100 + 4 * j + 3) a).toInt := tI_add (by omega) (by omega)
  have em : (ptMid V j a).toInt = ((V (100 + 4 * j + 2) a).toInt + (V (100 + 4 * j + 3) a).toInt) / 2 := by unfold ptMid; rw [fd_2 (by omega) (by omega), es]
  have e1 : (1 : Int32).toInt = 1 := by decide
  have e2 : (2 : Int32).toInt = 2 := by decide
  intro d
  induction d with
  | zero =>
    intro x hd h1 h2
    have ex : x = ptMid V j a := Int32.toInt_inj.mp (by omega)
    subst ex
    have p1 : (ptMid V j a + 1).toInt = (ptMid V j a).toInt + 1 := by rw [tI_add (by omega) (by omega), e1]
    have p2 : (2 * (ptMid V j a + 1)).toInt = 2 * ((ptMid V j a).toInt + 1) := by rw [tI_mul (by rw [e2, p1]; omega) (by rw [e2, p1]; omega), e2, p1]
    refine zz_iconst (v := 2) C d_Mo_work_123 (by decide) ?_
    refine zz_iload C d_Mo_work_124 rfl ?_
    refine zz_iconst (v := 1) C d_Mo_work_126 (by decide) ?_
    refine zz_iadd C d_Mo_work_127 ?_
    refine zz_imul C d_Mo_work_128 ?_
    refine zz_aload_n C d_Mo_work_129 rfl rfl ?_
    refine zz_get C d_Mo_work_130 zf_Mo_73 ((hR _).trans rfl) rfl ?_
    refine zz_bipush (v := 8) C d_Mo_work_133 (by decide) ?_
    refine zz_iload_n C d_Mo_work_135 rfl rfl ?_
    refine zz_imul C d_Mo_work_136 ?_
    refine zz_iload_n C d_Mo_work_137 rfl rfl ?_
    refine zz_iadd C d_Mo_work_138 ?_
    refine zz_ialdV (j := 8 * j + a) C hR (V (100 + 4 * j + 2) a) d_Mo_work_139 (fun _ _ => rfl) (ix8 j a) (by omega) (by decide) u1 ?_
    refine zz_aload_n C d_Mo_work_140 rfl rfl ?_
    refine zz_get C d_Mo_work_141 zf_Mo_76 ((hR _).trans rfl) rfl ?_
    refine zz_bipush (v := 8) C d_Mo_work_144 (by decide) ?_
    refine zz_iload_n C d_Mo_work_146 rfl rfl ?_
    refine zz_imul C d_Mo_work_147 ?_
    refine zz_iload_n C d_Mo_work_148 rfl rfl ?_
    refine zz_iadd C d_Mo_work_149 ?_
    refine zz_ialdV (j := 8 * j + a) C hR (V (100 + 4 * j + 3) a) d_Mo_work_150 (fun _ _ => rfl) (ix8 j a) (by omega) (by decide) u2 ?_
    refine zz_iadd C d_Mo_work_151 ?_
    refine zz_icmp_gt (tgt := 161) C d_Mo_work_152 (by decide) (fun c_152 => ?_) (fun c_152 => ?_)
    · exact kn
    · exact absurd (by rw [Int32.lt_iff_toInt_lt, es, p2]; omega) c_152
  | succ d ih =>
    intro x hd h1 h2
    have p1 : (x + 1).toInt = x.toInt + 1 := by rw [tI_add (by omega) (by omega), e1]
    have p2 : (2 * (x + 1)).toInt = 2 * (x.toInt + 1) := by rw [tI_mul (by rw [e2, p1]; omega) (by rw [e2, p1]; omega), e2, p1]
    have K := ih (x + 1) (by omega) (by omega) (by omega)
    refine zz_iconst (v := 2) C d_Mo_work_123 (by decide) ?_
    refine zz_iload C d_Mo_work_124 rfl ?_
    refine zz_iconst (v := 1) C d_Mo_work_126 (by decide) ?_
    refine zz_iadd C d_Mo_work_127 ?_
    refine zz_imul C d_Mo_work_128 ?_
    refine zz_aload_n C d_Mo_work_129 rfl rfl ?_
    refine zz_get C d_Mo_work_130 zf_Mo_73 ((hR _).trans rfl) rfl ?_
    refine zz_bipush (v := 8) C d_Mo_work_133 (by decide) ?_
    refine zz_iload_n C d_Mo_work_135 rfl rfl ?_
    refine zz_imul C d_Mo_work_136 ?_
    refine zz_iload_n C d_Mo_work_137 rfl rfl ?_
    refine zz_iadd C d_Mo_work_138 ?_
    refine zz_ialdV (j := 8 * j + a) C hR (V (100 + 4 * j + 2) a) d_Mo_work_139 (fun _ _ => rfl) (ix8 j a) (by omega) (by decide) u1 ?_
    refine zz_aload_n C d_Mo_work_140 rfl rfl ?_
    refine zz_get C d_Mo_work_141 zf_Mo_76 ((hR _).trans rfl) rfl ?_
    refine zz_bipush (v := 8) C d_Mo_work_144 (by decide) ?_
    refine zz_iload_n C d_Mo_work_146 rfl rfl ?_
    refine zz_imul C d_Mo_work_147 ?_
    refine zz_iload_n C d_Mo_work_148 rfl rfl ?_
    refine zz_iadd C d_Mo_work_149 ?_
    refine zz_ialdV (j := 8 * j + a) C hR (V (100 + 4 * j + 3) a) d_Mo_work_150 (fun _ _ => rfl) (ix8 j a) (by omega) (by decide) u2 ?_
    refine zz_iadd C d_Mo_work_151 ?_
    refine zz_icmp_gt (tgt := 161) C d_Mo_work_152 (by decide) (fun c_152 => ?_) (fun c_152 => ?_)
    · exact absurd c_152 (by rw [Int32.lt_iff_toInt_lt, es, p2]; omega)
    · refine zz_iinc C d_Mo_work_155 rfl (show x + Int32.ofInt 1 = x + 1 from rfl) (by decide) rfl ?_
      refine zz_goto (tgt := 123) C d_Mo_work_158 (by decide) ?_
      exact K
set_option maxRecDepth 100000 in
set_option maxHeartbeats 4000000 in
theorem lpT_Mo_work {X : zX} (C : zc X E b_Mo_work 8 "BranchTreesModel" (zR 4)) {post : Option Value → (Nat → Nat) → zH → Prop} (Z : zr X E (some .boolean) 0 0 post) (h8 : n ≤ 8) (hj : j < 600) (hN : μ 40 1 = nI n) {x : Int32} (hpost : ∀ h, zRep E ad al2 (wt2 μ j x n) pa h → post (some (.int 1)) ad h) :
    ∀ (d i : Nat), n - i = d → i ≤ n → ∀ h, zRep E ad al2 (wt2 μ j x i) pa h → zz X E 8 ad 0 0 60 [some (.ref (ad 40)), some (.int (nI j)), some (.int x), some (.int (-1)), some (.int (nI i)), none, none, none] [] h := by
  intro d
  induction d with
  | zero =>
    intro i hd hi h hR
    have e : i = n := by omega
    subst e
    refine zz_iload C d_Mo_work_60 rfl ?_
    refine zz_aload_n C d_Mo_work_62 rfl rfl ?_
    refine zz_getV C hR (nI i) _ d_Mo_work_63 zf_Mo_85 rfl rfl hN ?_
    refine zz_icmp_ge (tgt := 94) C d_Mo_work_66 (by decide) (fun c_66 => ?_) (fun c_66 => ?_)
    · refine zz_iconst (v := 1) C d_Mo_work_94 (by decide) ?_
      refine zz_zret C Z d_Mo_work_95 (by first | rfl | decide | assumption) ?_
      exact hpost h hR
    · exact absurd (nI_le (Nat.le_refl _) (by omega)) c_66
  | succ d ih =>
    intro i hd hi h hR
    have hlt : i < n := by omega
    have K := ih (i + 1) (by omega) hlt
    have e5 : va_up (wt2 μ j x i) 52 (upd (wt2 μ j x i 52) i (μ 60 (8 * j + i))) = wt2 μ j x (i + 1) := by
      have : wt2 μ j x i 52 = cpn i (fun k => μ 60 (8 * j + k)) (μ 52) := rfl
      have e := cpn_s i (fun k => μ 60 (8 * j + k)) (μ 52)
      rw [this, e]; unfold wt2; rw [bx_uu]
    rw [← e5] at K
    refine zz_iload C d_Mo_work_60 rfl ?_
    refine zz_aload_n C d_Mo_work_62 rfl rfl ?_
    refine zz_getV C hR (nI n) _ d_Mo_work_63 zf_Mo_85 rfl rfl hN ?_
    refine zz_icmp_ge (tgt := 94) C d_Mo_work_66 (by decide) (fun c_66 => ?_) (fun c_66 => ?_)
    · exact absurd c_66 (nI_ge hlt (by omega))
    · refine zz_aload_n C d_Mo_work_69 rfl rfl ?_
      refine zz_get C d_Mo_work_70 zf_Mo_49 ((hR _).trans rfl) rfl ?_
      refine zz_iload C d_Mo_work_73 rfl ?_
      refine zz_aload_n C d_Mo_work_75 rfl rfl ?_
      refine zz_get C d_Mo_work_76 zf_Mo_73 ((hR _).trans rfl) rfl ?_
      refine zz_bipush (v := 8) C d_Mo_work_79 (by decide) ?_
      refine zz_iload_n C d_Mo_work_81 rfl rfl ?_
      refine zz_imul C d_Mo_work_82 ?_
      refine zz_iload C d_Mo_work_83 rfl ?_
      refine zz_iadd C d_Mo_work_85 ?_
      refine zz_ialdV (j := 8 * j + i) C hR (μ 60 (8 * j + i)) d_Mo_work_86 (fun _ _ => rfl) (ix8 j i) (by omega) (by decide) rfl ?_
      refine zz_iastR (j := i) C hR d_Mo_work_87 (fun _ _ => rfl) rfl (by omega) (by decide) (fun h hR => ?_)
      refine zz_iinc C d_Mo_work_88 rfl (nI_inc _) (by decide) rfl ?_
      refine zz_goto (tgt := 60) C d_Mo_work_91 (by decide) ?_
      exact K h hR
abbrev wkO (E : zE) (ad : Nat → Nat) (al2 n rc sz c : Nat) (V : Nat → Nat → Int32) (pv : Nat → Nat → Int64) (μ : Nat → Nat → Int32) (pa : Nat → Nat → Int64) (T : zQ) : Option Value → (Nat → Nat) → zH → Prop := fun r ad' h' => r = some (.int T.1) ∧ ad' = ad ∧ ∃ m pm, fx μ pa m pm ∧ zRep E ad al2 m pm h' ∧ ((T.1 = 0 ∧ MM n rc sz V pv m pm) ∨ (T.1 = 1 ∧ ∃ s, CI n rc s T.2.1 (c + 1) T.2.2.1 ∧ MM n rc s T.2.2.1 T.2.2.2 (bmp m) pm))
set_option maxRecDepth 100000 in
set_option maxHeartbeats 4000000 in
theorem pt_Mo_work {X : zX} (C : zc X E b_Mo_work 8 "BranchTreesModel" (zR 4)) {post : Option Value → (Nat → Nat) → zH → Prop} (Z : zr X E (some .boolean) 0 0 post) {a : Nat} (hC : CI n rc sz al c V) (hM : MM n rc sz V pv μ pa) (hc : c ≤ 1000000) (hj : j < sz) (h6 : sz + 2 ≤ 600) (ha : a < n) (hop : ¬ V (100 + 4 * j + 3) a ≤ V (100 + 4 * j + 2) a) 
    (hpost : ∀ m pm h, fx μ pa m pm → CI n rc (sz + 2) (ptA al sz) (c + 1) (wk1 (ptM V al sz j a n rc)) → MM n rc (sz + 2) (wk1 (ptM V al sz j a n rc)) (ptP pv a (ptG V al sz j a n rc)) (bmp m) pm → zRep E ad al2 m pm h → post (some (.int 1)) ad h) :
    ∀ h, zRep E ad al2 μ pa h → zz X E 8 ad 0 0 161 [some (.ref (ad 40)), some (.int (nI j)), some (.int (V (100 + 4 * j) 8)), some (.int (nI a)), some (.int (ptMid V j a)), none, none, none] [] h := by
  intro h hR
  have h8 := hC.n8
  obtain ⟨b1, b2, b3⟩ := (hC.tB j hj).1 a ha
  have hop' := i32_tr hop
  have es : (V (100 + 4 * j + 2) a + V (100 + 4 * j + 3) a).toInt = (V (100 + 4 * j + 2) a).toInt + (V (100 + 4 * j + 3) a).toInt := tI_add (by omega) (by omega)
  have em : (ptMid V j a).toInt = ((V (100 + 4 * j + 2) a).toInt + (V (100 + 4 * j + 3) a).toInt) / 2 := by unfold ptMid; rw [fd_2 (by omega) (by omega), es]
  have e1 : (1 : Int32).toInt = 1 := by decide
  have p1 : (ptMid V j a + 1).toInt = (ptMid V j a).toInt + 1 := by rw [tI_add (by omega) (by omega), e1]
  have C0 : CI n rc sz al c (pt0 V j a) := hC.nd
  have M0 : MM n rc sz (pt0 V j a) pv (va_up (va_up μ 57 (upd (μ 57) j 1)) 59 (upd (μ 59) j (nI a))) pa := hM.nd
  have f0 : ∀ k, k ≠ 100 + 4 * j → pt0 V j a k = V k := fun k hk => va_up_ne _ _ hk
  have f1 : ∀ k, (k < 100 + 4 * sz ∨ 100 + 4 * sz + 4 ≤ k) → k ≠ 14 → k ≠ 16 → k ≠ 100 + 4 * j → pt1 V al sz j a n rc k = V k := fun k a1 a2 a3 a4 => by unfold pt1; rw [kdF_fr a1 a2 a3, f0 k a4]
  have z0 : pt0 V j a (100 + 4 * j) 8 = V (100 + 4 * j) 8 := by unfold pt0; rw [va_up_self, pk_un (by decide), pk_un (by decide)]
  have z1 : pt1 V al sz j a n rc (100 + 4 * j) 8 = V (100 + 4 * j) 8 := by unfold pt1; rw [kdF_fr (by omega) (by omega) (by omega), z0]
  have sd0 : V 22 2 = 0 ∨ V 22 2 = 1 := hC.2.1.2.2
  have sd1 : 1 - V 22 2 = 0 ∨ 1 - V 22 2 = 1 := by
    rcases sd0 with q | q
    · rw [q]; exact Or.inr (by decide)
    · rw [q]; exact Or.inl (by decide)
  have hg : grA al sz ≤ 600 := by have := hC.al6; unfold grA; split <;> omega
  have s0 : μ 51 2 = V 22 2 := hM.2.2.2.2.1.2 2 (by decide)
  refine zz_aload_n C d_Mo_work_161 rfl rfl ?_
  refine zz_get C d_Mo_work_162 zf_Mo_64 ((hR _).trans rfl) rfl ?_
  refine zz_iload_n C d_Mo_work_165 rfl rfl ?_
  refine zz_iconst (v := 1) C d_Mo_work_166 (by decide) ?_
  refine zz_iastR (j := j) C hR d_Mo_work_167 (fun _ _ => rfl) rfl (by omega) (by decide) (fun h hR => ?_)
  refine zz_aload_n C d_Mo_work_168 rfl rfl ?_
  refine zz_get C d_Mo_work_169 zf_Mo_70 ((hR _).trans rfl) rfl ?_
  refine zz_iload_n C d_Mo_work_172 rfl rfl ?_
  refine zz_iload_n C d_Mo_work_173 rfl rfl ?_
  refine zz_iastR (j := j) C hR d_Mo_work_174 (fun _ _ => rfl) rfl (by omega) (by decide) (fun h hR => ?_)
  have hR : zRep E ad al2 (va_up (va_up μ 57 (upd (μ 57) j 1)) 59 (upd (μ 59) j (nI a))) pa h := hR
  refine zz_iconst (v := 0) C d_Mo_work_175 (by decide) ?_
  refine zz_istore C d_Mo_work_176 (by decide) rfl ?_
  refine zz_iload C d_Mo_work_178 rfl ?_
  refine zz_iconst (v := 2) C d_Mo_work_180 (by decide) ?_
  refine zz_icmp_ge (tgt := 276) C d_Mo_work_181 (by decide) (fun c_181 => ?_) (fun c_181 => ?_)
  · exact absurd c_181 (by decide)
  · refine zz_iload C d_Mo_work_184 rfl ?_
    refine zz_if_ne (tgt := 198) C d_Mo_work_186 (by decide) (fun c_186 => ?_) (fun c_186 => ?_)
    · exact absurd rfl c_186
    · refine zz_aload_n C d_Mo_work_189 rfl rfl ?_
      refine zz_get C d_Mo_work_190 zf_Mo_46 ((hR _).trans rfl) rfl ?_
      refine zz_iconst (v := 2) C d_Mo_work_193 (by decide) ?_
      refine zz_ialdV (j := 2) C hR (V 22 2) d_Mo_work_194 (fun _ _ => rfl) rfl (by decide) (by decide) s0 ?_
      refine zz_goto (tgt := 206) C d_Mo_work_195 (by decide) ?_
      rw [← z0]
      refine st_Mo_work C C0 M0 (by omega) hj ha sd0 (by rw [f0 _ (by omega)]; omega) (by rw [f0 _ (by omega)]; omega) (fun m1 h g1 gf g2 hR => ?_) h hR
      rw [z0]
      have g1 : CI n rc (sz + 1) (grA al sz) c (pt1 V al sz j a n rc) := g1
      have s1 : m1 51 2 = V 22 2 := by rw [g2.2.2.2.2.1.2 2 (by decide)]; exact congrFun (f1 22 (by omega) (by omega) (by omega) (by omega)) 2
      refine zz_iinc C d_Mo_work_270 rfl (show (0 : Int32) + Int32.ofInt 1 = 1 from rfl) (by decide) rfl ?_
      refine zz_goto (tgt := 178) C d_Mo_work_273 (by decide) ?_
      refine zz_iload C d_Mo_work_178 rfl ?_
      refine zz_iconst (v := 2) C d_Mo_work_180 (by decide) ?_
      refine zz_icmp_ge (tgt := 276) C d_Mo_work_181 (by decide) (fun c_181 => ?_) (fun c_181 => ?_)
      · exact absurd c_181 (by decide)
      · refine zz_iload C d_Mo_work_184 rfl ?_
        refine zz_if_ne (tgt := 198) C d_Mo_work_186 (by decide) (fun c_186 => ?_) (fun c_186 => ?_)
        · refine zz_iconst (v := 1) C d_Mo_work_198 (by decide) ?_
          refine zz_aload_n C d_Mo_work_199 rfl rfl ?_
          refine zz_get C d_Mo_work_200 zf_Mo_46 ((hR _).trans rfl) rfl ?_
          refine zz_iconst (v := 2) C d_Mo_work_203 (by decide) ?_
          refine zz_ialdV (j := 2) C hR (V 22 2) d_Mo_work_204 (fun _ _ => rfl) rfl (by decide) (by decide) s1 ?_
          refine zz_isub C d_Mo_work_205 ?_
          rw [← z1]
          refine st_Mo_work C (V := pt1 V al sz j a n rc) g1 g2 (by omega) (by omega) ha sd1 (by rw [f1 _ (by omega) (by omega) (by omega) (by omega)]; omega) (by rw [f1 _ (by omega) (by omega) (by omega) (by omega)]; omega) (fun m2 h k1 kf k2 hR => ?_) h hR
          rw [z1]
          have k1 : CI n rc (sz + 2) (ptA al sz) c (pt2 V al sz j a n rc) := k1
          have t1 : m2 44 a = pt2 V al sz j a n rc 13 a := (k2.2.2.2.2.2.1 a (by omega)).2
          refine zz_iinc C d_Mo_work_270 rfl (show (1 : Int32) + Int32.ofInt 1 = 2 from rfl) (by decide) rfl ?_
          refine zz_goto (tgt := 178) C d_Mo_work_273 (by decide) ?_
          refine zz_iload C d_Mo_work_178 rfl ?_
          refine zz_iconst (v := 2) C d_Mo_work_180 (by decide) ?_
          refine zz_icmp_ge (tgt := 276) C d_Mo_work_181 (by decide) (fun c_181 => ?_) (fun c_181 => ?_)
          · refine zz_aload_n C d_Mo_work_276 rfl rfl ?_
            refine zz_get C d_Mo_work_277 zf_Mo_24 ((hR _).trans rfl) rfl ?_
            refine zz_iload_n C d_Mo_work_280 rfl rfl ?_
            refine zz_aload_n C d_Mo_work_281 rfl rfl ?_
            refine zz_get C d_Mo_work_282 zf_Mo_24 ((hR _).trans rfl) rfl ?_
            refine zz_iload_n C d_Mo_work_285 rfl rfl ?_
            refine zz_ialdV (j := a) C hR (pt2 V al sz j a n rc 13 a) d_Mo_work_286 (fun _ _ => rfl) rfl (by omega) (by decide) t1 ?_
            refine zz_iconst (v := 2) C d_Mo_work_287 (by decide) ?_
            refine zz_iadd C d_Mo_work_288 ?_
            refine zz_iastR (j := a) C hR d_Mo_work_289 (fun _ _ => rfl) rfl (by omega) (by decide) (fun h hR => ?_)
            refine zz_iconst (v := 1) C d_Mo_work_290 (by decide) ?_
            refine zz_zret C Z d_Mo_work_291 (by first | rfl | decide | assumption) ?_
            refine hpost _ _ h ((fx.tr ((fx.rf.up ⟨by decide, by decide⟩).up ⟨by decide, by decide⟩) (gf.tr kf)).up ⟨by decide, by decide⟩) (k1.tm (by omega) hc).bump ?_ hR
            have q2 : MM n rc (sz + 2) (pt2 V al sz j a n rc) (ptP (ptP pv a (gnF (pt1 V al sz j a n rc) sz j)) a (gnF (pt2 V al sz j a n rc) (sz + 1) j)) m2 _ := k2
            exact ((MM.tm q2).pvE (ptP_2 (gn_bd g1 (by omega) (by omega)) (gn_bd k1 (by omega) (by omega)))).bump
          · exact absurd (by decide) c_181
        · exact absurd c_186 (by decide)
set_option maxRecDepth 100000 in
set_option maxHeartbeats 4000000 in
theorem ch_Mo_work {X : zX} (C : zc X E b_Mo_work 8 "BranchTreesModel" (zR 4)) {post : Option Value → (Nat → Nat) → zH → Prop} (Z : zr X E (some .boolean) 0 0 post) (hC : CI n rc sz al c V) (hM : MM n rc sz V pv μ pa) (hc : c ≤ 1000000) (hj : j < sz) (hnab : nabF (V 9 1) (V 9 2) (V (100 + 4 * j) 8) = 0)
    (hpost : ∀ r ad' h', wkO E ad al2 n rc sz c V pv μ pa (wkF V pv al sz j n rc) r ad' h' → post r ad' h') :
    ∀ h, zRep E ad al2 μ pa h → zz X E 8 ad 0 0 30 [some (.ref (ad 40)), some (.int (nI j)), some (.int (V (100 + 4 * j) 8)), none, none, none, none, none] [] h := by
  intro h hR
  have h8 := hC.n8
  have h6 := hC.sz6
  have hu := (hM.2.2.1.2 j hj).2.2.2.2.2.2.2
  obtain ⟨hP, hB, hT, h18, hK, hX, hV⟩ := id hM
  have hw : ∀ k, k < n → rMet X.2.1 y_Mo_worth b_Mo_worth 4 (some .int) (zR 1) E [.ref (ad 40), .int (nI j), .int (nI k)] ad al2 μ pa (.int ((fun q => meF (V 22 1) (V (100 + 4 * j + 2) q) (V (100 + 4 * j + 3) q) 0 (V 13 q) (pv 12 q) (V 4 q)) k)) := fun k hk =>
    m_Mo_worth (by omega) (by omega) (hK.2 1 (by decide)) hC.2.1.2.1 (hu k hk).1 (hu k hk).2 (hX k (by omega)).2 (hX k (by omega)).1 (hP.2.2.1 k (by omega)).2.2 (hC.2.2.2.1 k (by omega)).1
  have hq : chO V pv j n = (coF (V (100 + 4 * j + 2)) (V (100 + 4 * j + 3)) (fun q => meF (V 22 1) (V (100 + 4 * j + 2) q) (V (100 + 4 * j + 3) q) 0 (V 13 q) (pv 12 q) (V 4 q)) n).1 := rfl
  have hop := coF_op (V (100 + 4 * j + 2)) (V (100 + 4 * j + 3)) (fun q => meF (V 22 1) (V (100 + 4 * j + 2) q) (V (100 + 4 * j + 3) q) 0 (V 13 q) (pv 12 q) (V 4 q)) n
  rw [← hq] at hop
  refine zz_aload_n C d_Mo_work_30 rfl rfl ?_
  refine zz_iload_n C d_Mo_work_31 rfl rfl ?_
  refine zz_callVe (e := 2) C hR d_Mo_work_32 mk_Mo_178 zy_Mo_choose (m_Mo_choose h8 hP.1 (by omega) (fun k hk => (hu k hk).1) (fun k hk => (hu k hk).2) hw) ⟨by decide, by decide⟩ ⟨Nat.zero_le _, Nat.zero_le _⟩ rfl rfl rfl rfl (Nat.le_of_ble_eq_true rfl) (fun b hb => ?_)
  rcases hb with ⟨hb1, rfl⟩ | ⟨a, ha, hb1, rfl, -⟩
  · refine zz_istore_n C d_Mo_work_35 rfl (by decide) rfl ?_
    refine zz_iload_n C d_Mo_work_36 rfl rfl ?_
    refine zz_if_ge (tgt := 96) C d_Mo_work_37 (by decide) (fun c_37 => ?_) (fun c_37 => ?_)
    · exact absurd c_37 (by decide)
    · refine zz_aload_n C d_Mo_work_40 rfl rfl ?_
      refine zz_get C d_Mo_work_41 zf_Mo_64 ((hR _).trans rfl) rfl ?_
      refine zz_iload_n C d_Mo_work_44 rfl rfl ?_
      refine zz_iconst (v := 4) C d_Mo_work_45 (by decide) ?_
      refine zz_iastR (j := j) C hR d_Mo_work_46 (fun _ _ => rfl) rfl (by omega) (by decide) (fun h hR => ?_)
      refine zz_aload_n C d_Mo_work_47 rfl rfl ?_
      refine zz_iconst (v := 1) C d_Mo_work_48 (by decide) ?_
      refine zz_putI C hR d_Mo_work_49 zp_Mo_98 rfl rfl rfl (Nat.le_of_ble_eq_true rfl) rfl (fun h hR => ?_)
      refine zz_aload_n C d_Mo_work_52 rfl rfl ?_
      refine zz_iload_n C d_Mo_work_53 rfl rfl ?_
      refine zz_putI C hR d_Mo_work_54 zp_Mo_136 rfl rfl rfl (Nat.le_of_ble_eq_true rfl) rfl (fun h hR => ?_)
      refine zz_iconst (v := 0) C d_Mo_work_57 (by decide) ?_
      refine zz_istore C d_Mo_work_58 (by decide) rfl ?_
      refine lpT_Mo_work (μ := μ) (x := V (100 + 4 * j) 8) C Z h8 (by omega) hP.1 (fun h hR => ?_) n 0 rfl (Nat.zero_le _) h (hR.eq (by unfold wt2; rw [cpn_0]; exact (va_up_id (wt1 μ j _) 52).symm) rfl)
      refine hpost _ _ _ ?_
      rw [← hq] at hb1
      unfold wkF
      rw [if_pos hnab, if_neg (fun q => q hb1)]
      exact ⟨rfl, rfl, wt2 μ j (V (100 + 4 * j) 8) n, pa, (((fx.rf.up ⟨by decide, by decide⟩).up ⟨by decide, by decide⟩).up ⟨by decide, by decide⟩).up ⟨by decide, by decide⟩, hR, Or.inr ⟨rfl, sz, ((hC.st.take (low_bd hC hj)).bump).mono (by omega), (hM.take h8 hj).bump⟩⟩
  · rw [← hq] at hb1
    have hne : ¬ chO V pv j n = -2 := by rw [hb1]; exact nI_ne2 (by omega)
    have ec : (chO V pv j n).toNatClampNeg = a := by rw [hb1]; exact nI_clamp (by omega)
    have hopa : ¬ V (100 + 4 * j + 3) a ≤ V (100 + 4 * j + 2) a := by
      rcases hop with q | ⟨q, q1, q2, q3⟩
      · exact absurd q hne
      · have : q = a := (nI_eq (by omega) (by omega)).mp (q2.symm.trans hb1)
        subst this; exact q3
    obtain ⟨b1, b2, b3⟩ := (hC.tB j hj).1 a ha
    refine zz_istore_n C d_Mo_work_35 rfl (by decide) rfl ?_
    refine zz_iload_n C d_Mo_work_36 rfl rfl ?_
    refine zz_if_ge (tgt := 96) C d_Mo_work_37 (by decide) (fun c_37 => ?_) (fun c_37 => ?_)
    · refine zz_aload_n C d_Mo_work_96 rfl rfl ?_
      refine zz_getV C hR (V 14 1) _ d_Mo_work_97 zf_Mo_92 rfl rfl (hM.S.trans hC.S.symm) ?_
      refine zz_iconst (v := 2) C d_Mo_work_100 (by decide) ?_
      refine zz_iadd C d_Mo_work_101 ?_
      refine zz_sipush (v := 600) C d_Mo_work_102 (by decide) ?_
      refine zz_icmp_le (tgt := 110) C d_Mo_work_105 (by decide) (fun c_105 => ?_) (fun c_105 => ?_)
      · have hroom : sz + 2 ≤ 600 := sz_room hC.S h6 (i32_nlt c_105)
        refine zz_aload_n C d_Mo_work_110 rfl rfl ?_
        refine zz_get C d_Mo_work_111 zf_Mo_73 ((hR _).trans rfl) rfl ?_
        refine zz_bipush (v := 8) C d_Mo_work_114 (by decide) ?_
        refine zz_iload_n C d_Mo_work_116 rfl rfl ?_
        refine zz_imul C d_Mo_work_117 ?_
        refine zz_iload_n C d_Mo_work_118 rfl rfl ?_
        refine zz_iadd C d_Mo_work_119 ?_
        refine zz_ialdV (j := 8 * j + a) C hR (V (100 + 4 * j + 2) a) d_Mo_work_120 (fun _ _ => rfl) (ix8 j a) (by omega) (by decide) (hu a ha).1 ?_
        refine zz_istore C d_Mo_work_121 (by decide) rfl ?_
        have hmid : (V (100 + 4 * j + 2) a).toInt ≤ (ptMid V j a).toInt := by
          unfold ptMid; rw [fd_2 (by rw [tI_add (by omega) (by omega)]; omega) (by rw [tI_add (by omega) (by omega)]; omega), tI_add (by omega) (by omega)]; omega
        refine lpM_Mo_work C (by omega) (by omega) (hu a ha).1 (hu a ha).2 b1 b2 b3 hR ?_ _ _ rfl (Int.le_refl _) hmid
        refine pt_Mo_work C Z hC hM hc hj hroom ha hopa (fun m pm h hf k1 k2 hR => ?_) h hR
        refine hpost _ _ _ ?_
        unfold wkF
        rw [if_pos hnab, if_pos hne, if_neg (by rw [if_neg (i32_nlt c_105)]; decide), ec]
        exact ⟨rfl, rfl, m, pm, hf, hR, Or.inr ⟨rfl, sz + 2, k1, k2⟩⟩
      · refine zz_iconst (v := 0) C d_Mo_work_108 (by decide) ?_
        refine zz_zret C Z d_Mo_work_109 (by first | rfl | decide | assumption) ?_
        refine hpost _ _ _ ?_
        unfold wkF
        rw [if_pos hnab, if_pos hne, if_pos (by rw [if_pos (i32_lt c_105)])]
        exact ⟨rfl, rfl, μ, pa, fx.rf, hR, Or.inl ⟨rfl, hM⟩⟩
    · exact absurd (nI_le (a := 0) (Nat.zero_le a) (by omega)) c_37
set_option maxRecDepth 100000 in
set_option maxHeartbeats 4000000 in
theorem m_Mo_work (hC : CI n rc sz al c V) (hM : MM n rc sz V pv μ pa) (hc : c ≤ 1000000) (hj : j < sz) : ∀ h, zRep E ad al2 μ pa h → zMet l y_Mo_work b_Mo_work 8 (some .boolean) (zR 4) E [.ref (ad 40), .int (nI j)] ad h (wkO E ad al2 n rc sz c V pv μ pa (wkF V pv al sz j n rc)) := by
  intro h hR
  refine zMet.of (L := [some (.ref (ad 40)), some (.int (nI j)), none, none, none, none, none, none]) (by decide +kernel) (Nat.le_of_ble_eq_true rfl) rfl 6 rfl fun X hl C Z => ?_
  have h6 := hC.sz6
  refine zz_aload_n C d_Mo_work_0 rfl rfl ?_
  refine zz_iload_n C d_Mo_work_1 rfl rfl ?_
  refine zz_callVs (e := 1) C hR d_Mo_work_2 mk_Mo_168 zy_Mo_lower (m_Mo_lowerV hC.n8 hM.1 hM.2.2.1 h6 hC.tB hC.fc hj) ⟨by decide, by decide⟩ ⟨Nat.zero_le _, Nat.zero_le _⟩ rfl rfl rfl rfl (Nat.le_of_ble_eq_true rfl) (fun h m hs hR => ?_)
  have hM := hM.sc hs
  have hf : fx μ pa m pa := fx.sc hs
  refine zz_istore_n C d_Mo_work_5 rfl (by decide) rfl ?_
  refine zz_aload_n C d_Mo_work_6 rfl rfl ?_
  refine zz_getV C hR (V 9 1) _ d_Mo_work_7 zf_Mo_98 rfl rfl hM.2.1.1 ?_
  refine zz_if_eq (tgt := 30) C d_Mo_work_10 (by decide) (fun c_10 => ?_) (fun c_10 => ?_)
  · refine ch_Mo_work C Z hC hM hc hj (by unfold nabF; simp only [c_10, if_true, if_false, not_true_eq_false, not_false_eq_true, ite_self]) (fun r ad1 h1 q => ?_) h hR
    obtain ⟨q1, q2, m9, p9, q3, q4⟩ := q
    exact ⟨q1, q2, m9, p9, hf.tr q3, q4⟩
  · refine zz_iload_n C d_Mo_work_13 rfl rfl ?_
    refine zz_aload_n C d_Mo_work_14 rfl rfl ?_
    refine zz_getV C hR (V 9 2) _ d_Mo_work_15 zf_Mo_136 rfl rfl hM.2.1.2 ?_
    refine zz_icmp_lt (tgt := 30) C d_Mo_work_18 (by decide) (fun c_18 => ?_) (fun c_18 => ?_)
    · refine ch_Mo_work C Z hC hM hc hj (by unfold nabF; simp only [c_10, c_18, if_true, if_false, not_true_eq_false, not_false_eq_true, ite_self]) (fun r ad1 h1 q => ?_) h hR
      obtain ⟨q1, q2, m9, p9, q3, q4⟩ := q
      exact ⟨q1, q2, m9, p9, hf.tr q3, q4⟩
    · refine zz_aload_n C d_Mo_work_21 rfl rfl ?_
      refine zz_get C d_Mo_work_22 zf_Mo_64 ((hR _).trans rfl) rfl ?_
      refine zz_iload_n C d_Mo_work_25 rfl rfl ?_
      refine zz_iconst (v := 3) C d_Mo_work_26 (by decide) ?_
      refine zz_iastR (j := j) C hR d_Mo_work_27 (fun _ _ => rfl) rfl (by omega) (by decide) (fun h hR => ?_)
      refine zz_iconst (v := 1) C d_Mo_work_28 (by decide) ?_
      refine zz_zret C Z d_Mo_work_29 (by first | rfl | decide | assumption) ?_
      unfold wkF
      rw [if_neg (by unfold nabF; rw [if_neg c_10, if_neg c_18]; decide)]
      exact ⟨rfl, rfl, _, pa, hf.up ⟨by decide, by decide⟩, hR, Or.inr ⟨rfl, sz, (hC.st.bump).mono (by omega), (hM.st hj).bump⟩⟩
end MWORK
