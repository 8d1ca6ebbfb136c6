/-! THE LAW -/
def zlw (X : zX) (b len : Nat) (xs : Nat → Int32) : Prop :=
  match X with
  | (p, l, e, R, s, m, args, below, meth, c, Q, A) => args = #[Value.ref b] ∧ meth.sig.returnType = ret ∧ meth.locks = false ∧ Q = lw_Z below #[Value.ref b] s ∧ (∀ q, A q → s.heap.size ≤ q) ∧ va_X b len xs s s.heap ∧ b < s.heap.size ∧ ¬ A b
section LAWROWS
variable {X : zX} {E : zE} {cc : ByteArray} {nL : Nat} {own : String} {rm : Room} {ad : Nat → Nat} {kc ks pc : Nat} {L : List (Option Value)} {st : List Value} {h : zH} {b len : Nat} {xs : Nat → Int32}
theorem zz_sld (C : zc X E cc nL own rm) (V : zlw X b len xs) {i : Int32} {j : Nat} (hd : decode cc pc = .ok (.iaload, 1)) (hi : i = nI j) (hj : j < len) (hL : len ≤ 2048) (kk : zz X E nL ad kc ks (pc + 1) L (.int (xs j) :: st) h) : zz X E nL ad kc ks pc L (.int i :: .ref b :: st) h := by
  obtain ⟨p, l, e, R, s, m, args, below, meth, c, Q, A⟩ := X
  obtain ⟨⟨hx, hb, hml, hown, hts⟩, ⟨hK, hN⟩, hA, hR⟩ := C
  obtain ⟨v1, v2, v3, v4, v5, v6, v7, v8⟩ := V
  subst hi
  have hcl : (nI j).toNatClampNeg = j := nI_clamp (by omega)
  intro H locs ls a1 a2 a3 a5
  have K := kk H locs ls a1 a2 a3 a5
  refine va_sld hx hb v6 v7 v8 a3 (vp_in_nI hj (by omega)) hd ?_
  rw [hcl]; exact K
theorem zz_slen (C : zc X E cc nL own rm) (V : zlw X b len xs) (hd : decode cc pc = .ok (.arraylength, 1)) (kk : zz X E nL ad kc ks (pc + 1) L (.int (nI len) :: st) h) : zz X E nL ad kc ks pc L (.ref b :: st) h := by
  obtain ⟨p, l, e, R, s, m, args, below, meth, c, Q, A⟩ := X
  obtain ⟨⟨hx, hb, hml, hown, hts⟩, ⟨hK, hN⟩, hA, hR⟩ := C
  obtain ⟨v1, v2, v3, v4, v5, v6, v7, v8⟩ := V
  exact fun H locs ls a1 a2 a3 a5 => va_slen hx hb v6 v7 v8 a3 hd (kk H locs ls a1 a2 a3 a5)
theorem zz_lend (C : zc X E b_La_law nL own room_1) (V : zlw X b len xs) (hd : decode b_La_law pc = .ok (.ireturn, 1)) (hk : kc ≤ 600000) (hs : ks ≤ 7302250) : zz X E nL ad kc ks pc L [.int 1] h := by
  obtain ⟨p, l, e, R, s, m, args, below, meth, c, Q, A⟩ := X
  obtain ⟨⟨hx, hb, hml, hown, hts⟩, ⟨hK, hN⟩, hA, hR⟩ := C
  obtain ⟨v1, v2, v3, v4, v5, v6, v7, v8⟩ := V
  subst hR
  subst v1
  subst v4
  intro H locs ls a1 a2 a3 a5
  refine va_forget (fun q hq => v5 _ (a3.2.2 q hq)) ?_
  refine W.widen (k := 600000) (n := 7302250) hk hs ?_
  exact lw_ret hx hb v2 v3 hd
/-- a call of the model -/
theorem zz_callX {al : Nat} {μ : Nat → Nat → Int32} {pa : Nat → Nat → Int64} {y : MethodName} {bb : ByteArray} {maxL n index kb ci N e : Nat} {As rest : List Value} {fs : List Value} {T : u_T} {r : Int32} {Q : (Nat → Nat → Int32) → (Nat → Nat → Int64) → Prop} (C : zc X E cc nL own rm) (hR : zRep E ad al μ pa h) (hd : decode cc pc = .ok (.invokevirtual index, 3)) (hl : Cond.methodLink own index y ∈ zt) (hY : zy y bb maxL (some .int) n) (hM : xMet X.2.1 y bb maxL (zR e) E (.ref (ad kb) :: As) ad al μ pa r Q) (hroom : e + 1 ≤ rm.frames ∧ 8 + (maxL + 11) + 40 * e ≤ rm.locals) (hcells : kc ≤ rm.cells ∧ ks ≤ rm.slots) (hrecv : zb E ad al kb (μ kb) (pa kb) = some (.inr (ci, fs))) (hc : zCl[ci]? = some (y.cls, T, N)) (hst : st = As.reverse ++ .ref (ad kb) :: rest) (hn : As.length = n) (hwd : (rest.map fun v => v.category).sum ≤ 8) (kk : ∀ (h' : zH) (m : Nat → Nat → Int32) (pm : Nat → Nat → Int64), fx μ pa m pm → Q m pm → zRep E ad al m pm h' → zz X E nL ad kc ks (pc + 3) L (.int r :: rest) h') : zz X E nL ad kc ks pc L st h :=
  zz_callV C hd hl hY (hM h hR) hroom hcells ((hR kb).trans hrecv) hc hst hn hwd fun r9 ad9 h9 q => by
    obtain ⟨rfl, rfl, m, pm, q1, q2, q3⟩ := q
    exact kk _ m pm q1 q2 q3
end LAWROWS
section CG
variable {n rc sz al c : Nat} {V μ m : Nat → Nat → Int32} {pv pa pm : Nat → Nat → Int64}
theorem MM.cgM (hM : MM n rc sz V pv μ pa) (f : ∀ k, 40 ≤ k → k < 64 → m k = μ k) (f2 : pm 43 = pa 43) : MM n rc sz V pv m pm := by
  obtain ⟨q1, q2, q3, q4, q5, q6, q7⟩ := hM
  unfold MM mP mBst mT mK mX mV
  rw [f 40 (by decide) (by decide), f 41 (by decide) (by decide), f 42 (by decide) (by decide), f 44 (by decide) (by decide), f 45 (by decide) (by decide), f 46 (by decide) (by decide), f 47 (by decide) (by decide), f 48 (by decide) (by decide), f 49 (by decide) (by decide), f 50 (by decide) (by decide), f 51 (by decide) (by decide), f 52 (by decide) (by decide), f 53 (by decide) (by decide), f 54 (by decide) (by decide), f 55 (by decide) (by decide), f 56 (by decide) (by decide), f 57 (by decide) (by decide), f 58 (by decide) (by decide), f 59 (by decide) (by decide), f 60 (by decide) (by decide), f 61 (by decide) (by decide), f2]
  exact ⟨q1, q2, q3, q4, q5, q6, q7⟩
theorem CI.cg (hC : CI n rc sz al c V) (e : ∀ k, k < 40 ∨ 64 ≤ k → m k = V k) : CI n rc sz al c m :=
  ⟨hC.1.fr fun k hk => e k (by omega), hC.2.1.fr (e 22 (by omega)) (e 23 (by omega)), hC.2.2.1.fr (e 9 (by omega)), hC.2.2.2.1.fr (e 13 (by omega)), hC.2.2.2.2.fr fun k hk => e k (by omega)⟩
theorem MM.cgV (hM : MM n rc sz V pv m pm) (hf : fx V pv m pm) : MM n rc sz m pm m pm := by
  obtain ⟨e, e2⟩ := hf
  obtain ⟨q1, q2, q3, q4, q5, q6, q7⟩ := hM
  refine ⟨q1.fr fun k hk => e k (by omega), ?_, q3.fr fun k hk => e k (by omega), ?_, ?_, ?_, ?_⟩
  · unfold mBst; rw [e 9 (by omega)]; exact q2
  · rw [e 14 (by omega)]; exact q4
  · unfold mK; rw [e 22 (by omega), e 23 (by omega)]; exact q5
  · unfold mX; rw [e 13 (by omega), e2]; exact q6
  · unfold mV; rw [e 9 (by omega), e 10 (by omega)]; exact q7
theorem rn_le : ∀ (k al sz : Nat) (V : Nat → Nat → Int32) (pv : Nat → Nat → Int64), rI n rc al sz V → (rnL n rc k al V pv).2.1 ≤ 600
  | 0, al, sz, V, pv, h => h.2.2.1
  | k + 1, al, sz, V, pv, h => by
    unfold rnL
    rw [h.sz]
    cases hp : pkF V (V 22 0) sz with
    | none => exact h.2.2.1
    | some j =>
      obtain ⟨sz', h1, -⟩ := wkF_inv (pa := pv) h (pkF_lt hp)
      show (if ¬ (wkF V pv al sz j n rc).1 = 0 then rnL n rc k (wkF V pv al sz j n rc).2.1 (wkF V pv al sz j n rc).2.2.1 (wkF V pv al sz j n rc).2.2.2 else (-3, (wkF V pv al sz j n rc).2)).2.1 ≤ 600
      split
      · exact rn_le k _ sz' _ _ h1
      · exact h1.2.2.1
theorem ru_le {x : Int32} (hC : CI n rc sz al c V) : al ≤ (ruF V pv al n rc x).2.1 ∧ (ruF V pv al n rc x).2.1 ≤ 600 := by
  have hI : rI n rc al sz V := ⟨hC.S, hC.szal, hC.al6, hC.N, hC.M⟩
  unfold ruF
  split
  · exact ⟨Nat.le_refl _, hC.al6⟩
  · split
    · exact ⟨Nat.le_refl _, hC.al6⟩
    · split
      · have h1 := rnL_al (n := n) (rc := rc) x.toNatClampNeg (ra0 V al) (rn0 V al n rc) pv
        refine ⟨Nat.le_trans ?_ h1, ?_⟩
        · unfold ra0
          split
          · exact Nat.le_refl _
          · exact grA_ge
        · unfold ra0 rn0
          split
          · exact rn_le _ _ sz _ _ hI
          · rename_i z
            have hz : sz = 0 := by
              have z0 : V 14 1 = 0 := Classical.byContradiction z
              rw [hC.S] at z0
              exact (nI_eq (by have := hC.sz6; omega) (by omega)).mp (z0.trans nI_0.symm)
            subst hz
            exact rn_le _ _ 1 _ _ (prtF_inv hI)
      · exact ⟨Nat.le_refl _, hC.al6⟩
theorem lw_room {al : Nat} (h : al ≤ 600) : 64 + 4 * al ≤ room_1.cells ∧ 14990 + 30 * al ≤ room_1.slots := ⟨by show _ ≤ 600000; omega, by show _ ≤ 7302250; omega⟩
end CG
theorem tab17 {x : Int32} (e0 : ¬ x = 0) (e1 : ¬ x = 1) (e2 : ¬ x = 2) (e3 : ¬ x = 3) (e4 : ¬ x = 4) (e5 : ¬ x = 5) (e6 : ¬ x = 6) (e7 : ¬ x = 7) (e8 : ¬ x = 8) (e9 : ¬ x = 9) (e10 : ¬ x = 10) (e11 : ¬ x = 11) (e12 : ¬ x = 12) (e13 : ¬ x = 13) (e14 : ¬ x = 14) (e15 : ¬ x = 15) (e16 : ¬ x = 16) (e17 : ¬ x = 17) : x.toInt < 0 ∨ 17 < x.toInt := by
  have g0 : ¬ x.toInt = 0 := fun q => e0 (i32_of 0 (by decide) q)
  have g1 : ¬ x.toInt = 1 := fun q => e1 (i32_of 1 (by decide) q)
  have g2 : ¬ x.toInt = 2 := fun q => e2 (i32_of 2 (by decide) q)
  have g3 : ¬ x.toInt = 3 := fun q => e3 (i32_of 3 (by decide) q)
  have g4 : ¬ x.toInt = 4 := fun q => e4 (i32_of 4 (by decide) q)
  have g5 : ¬ x.toInt = 5 := fun q => e5 (i32_of 5 (by decide) q)
  have g6 : ¬ x.toInt = 6 := fun q => e6 (i32_of 6 (by decide) q)
  have g7 : ¬ x.toInt = 7 := fun q => e7 (i32_of 7 (by decide) q)
  have g8 : ¬ x.toInt = 8 := fun q => e8 (i32_of 8 (by decide) q)
  have g9 : ¬ x.toInt = 9 := fun q => e9 (i32_of 9 (by decide) q)
  have g10 : ¬ x.toInt = 10 := fun q => e10 (i32_of 10 (by decide) q)
  have g11 : ¬ x.toInt = 11 := fun q => e11 (i32_of 11 (by decide) q)
  have g12 : ¬ x.toInt = 12 := fun q => e12 (i32_of 12 (by decide) q)
  have g13 : ¬ x.toInt = 13 := fun q => e13 (i32_of 13 (by decide) q)
  have g14 : ¬ x.toInt = 14 := fun q => e14 (i32_of 14 (by decide) q)
  have g15 : ¬ x.toInt = 15 := fun q => e15 (i32_of 15 (by decide) q)
  have g16 : ¬ x.toInt = 16 := fun q => e16 (i32_of 16 (by decide) q)
  have g17 : ¬ x.toInt = 17 := fun q => e17 (i32_of 17 (by decide) q)
  omega
section LAW
variable {X : zX} {E : zE} {b len t : Nat} {xs : Nat → Int32}
set_option maxRecDepth 100000 in
set_option maxHeartbeats 4000000 in
theorem lw_name (C : zc X E b_La_law 4 "BranchTreesLaw" room_1) (S : zs X t) (V : zlw X b len xs) (hL : len ≤ 2048) {i n rc sz al c : Nat} {ad : Nat → Nat} {μ : Nat → Nat → Int32} {pa : Nat → Nat → Int64} (hi : i + 4 ≤ len) (hcc : c ≤ 200000) (hC : CI n rc sz al c μ) (hM : MM n rc sz μ pa μ pa)
    (NX : ∀ (n rc sz al c9 : Nat) (ad : Nat → Nat) (m : Nat → Nat → Int32) (pm : Nat → Nat → Int64) (h : zH), c9 ≤ c + 300 → CI n rc sz al c9 m → MM n rc sz m pm m pm → zRep E ad al m pm h → zz X E 4 ad (64 + 4 * al) (14990 + 30 * al) 594 [some (.ref b), some (.ref (ad 0)), some (.ref (ad 40)), some (.int (nI i))] [] h) : ∀ h, zRep E ad al μ pa h → zz X E 4 ad (64 + 4 * al) (14990 + 30 * al) 120 [some (.ref b), some (.ref (ad 0)), some (.ref (ad 40)), some (.int (nI i))] [] h := by
  intro h hR
  refine zz_aload_n C d_La_law_120 rfl rfl ?_
  refine zz_aload_n C d_La_law_121 rfl rfl ?_
  refine zz_iload_n C d_La_law_122 rfl rfl ?_
  refine zz_iconst (v := 1) C d_La_law_123 (by decide) ?_
  refine zz_iadd C d_La_law_124 ?_
  refine zz_sld (j := i + 1) C V d_La_law_125 (nI_add i 1) (by omega) hL ?_
  refine zz_aload_n C d_La_law_126 rfl rfl ?_
  refine zz_iload_n C d_La_law_127 rfl rfl ?_
  refine zz_iconst (v := 2) C d_La_law_128 (by decide) ?_
  refine zz_iadd C d_La_law_129 ?_
  refine zz_sld (j := i + 2) C V d_La_law_130 (nI_add i 2) (by omega) hL ?_
  refine zz_callVw (e := 2) C hR d_La_law_131 mk_La_13 zy_BT_name (m_BT_name hC.n8 hC.N) ⟨by decide, by decide⟩ (lw_room hC.al6) rfl rfl rfl rfl (Nat.le_of_ble_eq_true rfl) (fun h hR => ?_)
  obtain ⟨f1, f2, -⟩ := s_name (l := X.2.1) (E := E) (ad := ad) (x := xs (i + 1)) (y := xs (i + 2)) hC hM
  obtain ⟨-, -, n2, rc2, sz2, hC2, hX⟩ := s_name (l := X.2.1) (E := E) (ad := ad) (x := xs (i + 1)) (y := xs (i + 2)) hC (hM.cgM f1 f2)
  refine zz_aload_n C d_La_law_134 rfl rfl ?_
  refine zz_aload_n C d_La_law_135 rfl rfl ?_
  refine zz_iload_n C d_La_law_136 rfl rfl ?_
  refine zz_iconst (v := 1) C d_La_law_137 (by decide) ?_
  refine zz_iadd C d_La_law_138 ?_
  refine zz_sld (j := i + 1) C V d_La_law_139 (nI_add i 1) (by omega) hL ?_
  refine zz_aload_n C d_La_law_140 rfl rfl ?_
  refine zz_iload_n C d_La_law_141 rfl rfl ?_
  refine zz_iconst (v := 2) C d_La_law_142 (by decide) ?_
  refine zz_iadd C d_La_law_143 ?_
  refine zz_sld (j := i + 2) C V d_La_law_144 (nI_add i 2) (by omega) hL ?_
  refine zz_callX (e := 1) C hR d_La_law_145 mk_La_17 zy_Mo_name hX ⟨by decide, by decide⟩ (lw_room hC.al6) rfl rfl rfl rfl (Nat.le_of_ble_eq_true rfl) (fun h m pm hf hq hR => ?_)
  refine zz_icmp_eq (tgt := 594) C d_La_law_148 (by decide) (fun c_148 => ?_) (fun c_148 => ?_)
  · exact NX n2 rc2 sz2 al c _ m pm h (by omega) (hC2.cg hf.1) (hq.cgV hf) hR
  · exact absurd rfl c_148
set_option maxRecDepth 100000 in
set_option maxHeartbeats 4000000 in
theorem lw_row (C : zc X E b_La_law 4 "BranchTreesLaw" room_1) (S : zs X t) (V : zlw X b len xs) (hL : len ≤ 2048) {i n rc sz al c : Nat} {ad : Nat → Nat} {μ : Nat → Nat → Int32} {pa : Nat → Nat → Int64} (hi : i + 4 ≤ len) (hcc : c ≤ 200000) (hC : CI n rc sz al c μ) (hM : MM n rc sz μ pa μ pa)
    (NX : ∀ (n rc sz al c9 : Nat) (ad : Nat → Nat) (m : Nat → Nat → Int32) (pm : Nat → Nat → Int64) (h : zH), c9 ≤ c + 300 → CI n rc sz al c9 m → MM n rc sz m pm m pm → zRep E ad al m pm h → zz X E 4 ad (64 + 4 * al) (14990 + 30 * al) 594 [some (.ref b), some (.ref (ad 0)), some (.ref (ad 40)), some (.int (nI i))] [] h) : ∀ h, zRep E ad al μ pa h → zz X E 4 ad (64 + 4 * al) (14990 + 30 * al) 153 [some (.ref b), some (.ref (ad 0)), some (.ref (ad 40)), some (.int (nI i))] [] h := by
  intro h hR
  refine zz_aload_n C d_La_law_153 rfl rfl ?_
  refine zz_aload_n C d_La_law_154 rfl rfl ?_
  refine zz_iload_n C d_La_law_155 rfl rfl ?_
  refine zz_iconst (v := 1) C d_La_law_156 (by decide) ?_
  refine zz_iadd C d_La_law_157 ?_
  refine zz_sld (j := i + 1) C V d_La_law_158 (nI_add i 1) (by omega) hL ?_
  refine zz_aload_n C d_La_law_159 rfl rfl ?_
  refine zz_iload_n C d_La_law_160 rfl rfl ?_
  refine zz_iconst (v := 2) C d_La_law_161 (by decide) ?_
  refine zz_iadd C d_La_law_162 ?_
  refine zz_sld (j := i + 2) C V d_La_law_163 (nI_add i 2) (by omega) hL ?_
  refine zz_callVw (e := 2) C hR d_La_law_164 mk_La_18 zy_BT_row (m_BT_row hC.r16 hC.M) ⟨by decide, by decide⟩ (lw_room hC.al6) rfl rfl rfl rfl (Nat.le_of_ble_eq_true rfl) (fun h hR => ?_)
  obtain ⟨f1, f2, -⟩ := s_row (l := X.2.1) (E := E) (ad := ad) (x := xs (i + 1)) (y := xs (i + 2)) hC hM
  obtain ⟨-, -, n2, rc2, sz2, hC2, hX⟩ := s_row (l := X.2.1) (E := E) (ad := ad) (x := xs (i + 1)) (y := xs (i + 2)) hC (hM.cgM f1 f2)
  refine zz_aload_n C d_La_law_167 rfl rfl ?_
  refine zz_aload_n C d_La_law_168 rfl rfl ?_
  refine zz_iload_n C d_La_law_169 rfl rfl ?_
  refine zz_iconst (v := 1) C d_La_law_170 (by decide) ?_
  refine zz_iadd C d_La_law_171 ?_
  refine zz_sld (j := i + 1) C V d_La_law_172 (nI_add i 1) (by omega) hL ?_
  refine zz_aload_n C d_La_law_173 rfl rfl ?_
  refine zz_iload_n C d_La_law_174 rfl rfl ?_
  refine zz_iconst (v := 2) C d_La_law_175 (by decide) ?_
  refine zz_iadd C d_La_law_176 ?_
  refine zz_sld (j := i + 2) C V d_La_law_177 (nI_add i 2) (by omega) hL ?_
  refine zz_callX (e := 1) C hR d_La_law_178 mk_La_21 zy_Mo_row hX ⟨by decide, by decide⟩ (lw_room hC.al6) rfl rfl rfl rfl (Nat.le_of_ble_eq_true rfl) (fun h m pm hf hq hR => ?_)
  refine zz_icmp_eq (tgt := 594) C d_La_law_181 (by decide) (fun c_181 => ?_) (fun c_181 => ?_)
  · exact NX n2 rc2 sz2 al c _ m pm h (by omega) (hC2.cg hf.1) (hq.cgV hf) hR
  · exact absurd rfl c_181
set_option maxRecDepth 100000 in
set_option maxHeartbeats 4000000 in
theorem lw_factor (C : zc X E b_La_law 4 "BranchTreesLaw" room_1) (S : zs X t) (V : zlw X b len xs) (hL : len ≤ 2048) {i n rc sz al c : Nat} {ad : Nat → Nat} {μ : Nat → Nat → Int32} {pa : Nat → Nat → Int64} (hi : i + 4 ≤ len) (hcc : c ≤ 200000) (hC : CI n rc sz al c μ) (hM : MM n rc sz μ pa μ pa)
    (NX : ∀ (n rc sz al c9 : Nat) (ad : Nat → Nat) (m : Nat → Nat → Int32) (pm : Nat → Nat → Int64) (h : zH), c9 ≤ c + 300 → CI n rc sz al c9 m → MM n rc sz m pm m pm → zRep E ad al m pm h → zz X E 4 ad (64 + 4 * al) (14990 + 30 * al) 594 [some (.ref b), some (.ref (ad 0)), some (.ref (ad 40)), some (.int (nI i))] [] h) : ∀ h, zRep E ad al μ pa h → zz X E 4 ad (64 + 4 * al) (14990 + 30 * al) 186 [some (.ref b), some (.ref (ad 0)), some (.ref (ad 40)), some (.int (nI i))] [] h := by
  intro h hR
  refine zz_aload_n C d_La_law_186 rfl rfl ?_
  refine zz_aload_n C d_La_law_187 rfl rfl ?_
  refine zz_iload_n C d_La_law_188 rfl rfl ?_
  refine zz_iconst (v := 1) C d_La_law_189 (by decide) ?_
  refine zz_iadd C d_La_law_190 ?_
  refine zz_sld (j := i + 1) C V d_La_law_191 (nI_add i 1) (by omega) hL ?_
  refine zz_aload_n C d_La_law_192 rfl rfl ?_
  refine zz_iload_n C d_La_law_193 rfl rfl ?_
  refine zz_iconst (v := 2) C d_La_law_194 (by decide) ?_
  refine zz_iadd C d_La_law_195 ?_
  refine zz_sld (j := i + 2) C V d_La_law_196 (nI_add i 2) (by omega) hL ?_
  refine zz_aload_n C d_La_law_197 rfl rfl ?_
  refine zz_iload_n C d_La_law_198 rfl rfl ?_
  refine zz_iconst (v := 3) C d_La_law_199 (by decide) ?_
  refine zz_iadd C d_La_law_200 ?_
  refine zz_sld (j := i + 3) C V d_La_law_201 (nI_add i 3) (by omega) hL ?_
  refine zz_callVw (e := 2) C hR d_La_law_202 mk_La_22 zy_BT_factor (m_BT_factor hC.n8 hC.N hC.r16 hC.M) ⟨by decide, by decide⟩ (lw_room hC.al6) rfl rfl rfl rfl (Nat.le_of_ble_eq_true rfl) (fun h hR => ?_)
  obtain ⟨f1, f2, -⟩ := s_factor (l := X.2.1) (E := E) (ad := ad) (x := xs (i + 1)) (y := xs (i + 2)) (f := xs (i + 3)) hC hM
  obtain ⟨-, -, n2, rc2, sz2, hC2, hX⟩ := s_factor (l := X.2.1) (E := E) (ad := ad) (x := xs (i + 1)) (y := xs (i + 2)) (f := xs (i + 3)) hC (hM.cgM f1 f2)
  refine zz_aload_n C d_La_law_205 rfl rfl ?_
  refine zz_aload_n C d_La_law_206 rfl rfl ?_
  refine zz_iload_n C d_La_law_207 rfl rfl ?_
  refine zz_iconst (v := 1) C d_La_law_208 (by decide) ?_
  refine zz_iadd C d_La_law_209 ?_
  refine zz_sld (j := i + 1) C V d_La_law_210 (nI_add i 1) (by omega) hL ?_
  refine zz_aload_n C d_La_law_211 rfl rfl ?_
  refine zz_iload_n C d_La_law_212 rfl rfl ?_
  refine zz_iconst (v := 2) C d_La_law_213 (by decide) ?_
  refine zz_iadd C d_La_law_214 ?_
  refine zz_sld (j := i + 2) C V d_La_law_215 (nI_add i 2) (by omega) hL ?_
  refine zz_aload_n C d_La_law_216 rfl rfl ?_
  refine zz_iload_n C d_La_law_217 rfl rfl ?_
  refine zz_iconst (v := 3) C d_La_law_218 (by decide) ?_
  refine zz_iadd C d_La_law_219 ?_
  refine zz_sld (j := i + 3) C V d_La_law_220 (nI_add i 3) (by omega) hL ?_
  refine zz_callX (e := 2) C hR d_La_law_221 mk_La_26 zy_Mo_factor hX ⟨by decide, by decide⟩ (lw_room hC.al6) rfl rfl rfl rfl (Nat.le_of_ble_eq_true rfl) (fun h m pm hf hq hR => ?_)
  refine zz_icmp_eq (tgt := 594) C d_La_law_224 (by decide) (fun c_224 => ?_) (fun c_224 => ?_)
  · exact NX n2 rc2 sz2 al c _ m pm h (by omega) (hC2.cg hf.1) (hq.cgV hf) hR
  · exact absurd rfl c_224
set_option maxRecDepth 100000 in
set_option maxHeartbeats 4000000 in
theorem lw_cost (C : zc X E b_La_law 4 "BranchTreesLaw" room_1) (S : zs X t) (V : zlw X b len xs) (hL : len ≤ 2048) {i n rc sz al c : Nat} {ad : Nat → Nat} {μ : Nat → Nat → Int32} {pa : Nat → Nat → Int64} (hi : i + 4 ≤ len) (hcc : c ≤ 200000) (hC : CI n rc sz al c μ) (hM : MM n rc sz μ pa μ pa)
    (NX : ∀ (n rc sz al c9 : Nat) (ad : Nat → Nat) (m : Nat → Nat → Int32) (pm : Nat → Nat → Int64) (h : zH), c9 ≤ c + 300 → CI n rc sz al c9 m → MM n rc sz m pm m pm → zRep E ad al m pm h → zz X E 4 ad (64 + 4 * al) (14990 + 30 * al) 594 [some (.ref b), some (.ref (ad 0)), some (.ref (ad 40)), some (.int (nI i))] [] h) : ∀ h, zRep E ad al μ pa h → zz X E 4 ad (64 + 4 * al) (14990 + 30 * al) 229 [some (.ref b), some (.ref (ad 0)), some (.ref (ad 40)), some (.int (nI i))] [] h := by
  intro h hR
  refine zz_aload_n C d_La_law_229 rfl rfl ?_
  refine zz_aload_n C d_La_law_230 rfl rfl ?_
  refine zz_iload_n C d_La_law_231 rfl rfl ?_
  refine zz_iconst (v := 1) C d_La_law_232 (by decide) ?_
  refine zz_iadd C d_La_law_233 ?_
  refine zz_sld (j := i + 1) C V d_La_law_234 (nI_add i 1) (by omega) hL ?_
  refine zz_aload_n C d_La_law_235 rfl rfl ?_
  refine zz_iload_n C d_La_law_236 rfl rfl ?_
  refine zz_iconst (v := 2) C d_La_law_237 (by decide) ?_
  refine zz_iadd C d_La_law_238 ?_
  refine zz_sld (j := i + 2) C V d_La_law_239 (nI_add i 2) (by omega) hL ?_
  refine zz_callVw (e := 2) C hR d_La_law_240 mk_La_27 zy_BT_cost (m_BT_cost hC.n8 hC.N) ⟨by decide, by decide⟩ (lw_room hC.al6) rfl rfl rfl rfl (Nat.le_of_ble_eq_true rfl) (fun h hR => ?_)
  obtain ⟨f1, f2, -⟩ := s_cost (l := X.2.1) (E := E) (ad := ad) (x := xs (i + 1)) (f := xs (i + 2)) hC hM
  obtain ⟨-, -, n2, rc2, sz2, hC2, hX⟩ := s_cost (l := X.2.1) (E := E) (ad := ad) (x := xs (i + 1)) (f := xs (i + 2)) hC (hM.cgM f1 f2)
  refine zz_aload_n C d_La_law_243 rfl rfl ?_
  refine zz_aload_n C d_La_law_244 rfl rfl ?_
  refine zz_iload_n C d_La_law_245 rfl rfl ?_
  refine zz_iconst (v := 1) C d_La_law_246 (by decide) ?_
  refine zz_iadd C d_La_law_247 ?_
  refine zz_sld (j := i + 1) C V d_La_law_248 (nI_add i 1) (by omega) hL ?_
  refine zz_aload_n C d_La_law_249 rfl rfl ?_
  refine zz_iload_n C d_La_law_250 rfl rfl ?_
  refine zz_iconst (v := 2) C d_La_law_251 (by decide) ?_
  refine zz_iadd C d_La_law_252 ?_
  refine zz_sld (j := i + 2) C V d_La_law_253 (nI_add i 2) (by omega) hL ?_
  refine zz_callX (e := 2) C hR d_La_law_254 mk_La_30 zy_Mo_cost hX ⟨by decide, by decide⟩ (lw_room hC.al6) rfl rfl rfl rfl (Nat.le_of_ble_eq_true rfl) (fun h m pm hf hq hR => ?_)
  refine zz_icmp_eq (tgt := 594) C d_La_law_257 (by decide) (fun c_257 => ?_) (fun c_257 => ?_)
  · exact NX n2 rc2 sz2 al c _ m pm h (by omega) (hC2.cg hf.1) (hq.cgV hf) hR
  · exact absurd rfl c_257
set_option maxRecDepth 100000 in
set_option maxHeartbeats 4000000 in
theorem lw_alike (C : zc X E b_La_law 4 "BranchTreesLaw" room_1) (S : zs X t) (V : zlw X b len xs) (hL : len ≤ 2048) {i n rc sz al c : Nat} {ad : Nat → Nat} {μ : Nat → Nat → Int32} {pa : Nat → Nat → Int64} (hi : i + 4 ≤ len) (hcc : c ≤ 200000) (hC : CI n rc sz al c μ) (hM : MM n rc sz μ pa μ pa)
    (NX : ∀ (n rc sz al c9 : Nat) (ad : Nat → Nat) (m : Nat → Nat → Int32) (pm : Nat → Nat → Int64) (h : zH), c9 ≤ c + 300 → CI n rc sz al c9 m → MM n rc sz m pm m pm → zRep E ad al m pm h → zz X E 4 ad (64 + 4 * al) (14990 + 30 * al) 594 [some (.ref b), some (.ref (ad 0)), some (.ref (ad 40)), some (.int (nI i))] [] h) : ∀ h, zRep E ad al μ pa h → zz X E 4 ad (64 + 4 * al) (14990 + 30 * al) 262 [some (.ref b), some (.ref (ad 0)), some (.ref (ad 40)), some (.int (nI i))] [] h := by
  intro h hR
  refine zz_aload_n C d_La_law_262 rfl rfl ?_
  refine zz_aload_n C d_La_law_263 rfl rfl ?_
  refine zz_iload_n C d_La_law_264 rfl rfl ?_
  refine zz_iconst (v := 1) C d_La_law_265 (by decide) ?_
  refine zz_iadd C d_La_law_266 ?_
  refine zz_sld (j := i + 1) C V d_La_law_267 (nI_add i 1) (by omega) hL ?_
  refine zz_aload_n C d_La_law_268 rfl rfl ?_
  refine zz_iload_n C d_La_law_269 rfl rfl ?_
  refine zz_iconst (v := 2) C d_La_law_270 (by decide) ?_
  refine zz_iadd C d_La_law_271 ?_
  refine zz_sld (j := i + 2) C V d_La_law_272 (nI_add i 2) (by omega) hL ?_
  refine zz_callVr (e := 3) C hR d_La_law_273 mk_La_31 zy_BT_alike (m_BT_alike hC.n8 hC.N hC.r16 hC.M) ⟨by decide, by decide⟩ (lw_room hC.al6) rfl rfl rfl rfl (Nat.le_of_ble_eq_true rfl) ?_
  obtain ⟨-, -, n2, rc2, sz2, hC2, hX⟩ := s_alike (l := X.2.1) (E := E) (ad := ad) (x := xs (i + 1)) (y := xs (i + 2)) hC hM
  refine zz_aload_n C d_La_law_276 rfl rfl ?_
  refine zz_aload_n C d_La_law_277 rfl rfl ?_
  refine zz_iload_n C d_La_law_278 rfl rfl ?_
  refine zz_iconst (v := 1) C d_La_law_279 (by decide) ?_
  refine zz_iadd C d_La_law_280 ?_
  refine zz_sld (j := i + 1) C V d_La_law_281 (nI_add i 1) (by omega) hL ?_
  refine zz_aload_n C d_La_law_282 rfl rfl ?_
  refine zz_iload_n C d_La_law_283 rfl rfl ?_
  refine zz_iconst (v := 2) C d_La_law_284 (by decide) ?_
  refine zz_iadd C d_La_law_285 ?_
  refine zz_sld (j := i + 2) C V d_La_law_286 (nI_add i 2) (by omega) hL ?_
  refine zz_callX (e := 2) C hR d_La_law_287 mk_La_34 zy_Mo_alike hX ⟨by decide, by decide⟩ (lw_room hC.al6) rfl rfl rfl rfl (Nat.le_of_ble_eq_true rfl) (fun h m pm hf hq hR => ?_)
  refine zz_icmp_eq (tgt := 594) C d_La_law_290 (by decide) (fun c_290 => ?_) (fun c_290 => ?_)
  · exact NX n2 rc2 sz2 al c _ m pm h (by omega) (hC2.cg hf.1) (hq.cgV hf) hR
  · exact absurd rfl c_290
set_option maxRecDepth 100000 in
set_option maxHeartbeats 4000000 in
theorem lw_order (C : zc X E b_La_law 4 "BranchTreesLaw" room_1) (S : zs X t) (V : zlw X b len xs) (hL : len ≤ 2048) {i n rc sz al c : Nat} {ad : Nat → Nat} {μ : Nat → Nat → Int32} {pa : Nat → Nat → Int64} (hi : i + 4 ≤ len) (hcc : c ≤ 200000) (hC : CI n rc sz al c μ) (hM : MM n rc sz μ pa μ pa)
    (NX : ∀ (n rc sz al c9 : Nat) (ad : Nat → Nat) (m : Nat → Nat → Int32) (pm : Nat → Nat → Int64) (h : zH), c9 ≤ c + 300 → CI n rc sz al c9 m → MM n rc sz m pm m pm → zRep E ad al m pm h → zz X E 4 ad (64 + 4 * al) (14990 + 30 * al) 594 [some (.ref b), some (.ref (ad 0)), some (.ref (ad 40)), some (.int (nI i))] [] h) : ∀ h, zRep E ad al μ pa h → zz X E 4 ad (64 + 4 * al) (14990 + 30 * al) 295 [some (.ref b), some (.ref (ad 0)), some (.ref (ad 40)), some (.int (nI i))] [] h := by
  intro h hR
  refine zz_aload_n C d_La_law_295 rfl rfl ?_
  refine zz_callVw (e := 5) C hR d_La_law_296 mk_La_35 zy_BT_order (m_BT_order hC.n8 hC.N hC.r16 hC.M) ⟨by decide, by decide⟩ (lw_room hC.al6) rfl rfl rfl rfl (Nat.le_of_ble_eq_true rfl) (fun h hR => ?_)
  obtain ⟨f1, f2, -⟩ := s_order (l := X.2.1) (E := E) (ad := ad)  hC hM
  obtain ⟨-, -, n2, rc2, sz2, hC2, hX⟩ := s_order (l := X.2.1) (E := E) (ad := ad)  hC (hM.cgM f1 f2)
  refine zz_aload_n C d_La_law_299 rfl rfl ?_
  refine zz_callX (e := 2) C hR d_La_law_300 mk_La_39 zy_Mo_order hX ⟨by decide, by decide⟩ (lw_room hC.al6) rfl rfl rfl rfl (Nat.le_of_ble_eq_true rfl) (fun h m pm hf hq hR => ?_)
  refine zz_icmp_eq (tgt := 594) C d_La_law_303 (by decide) (fun c_303 => ?_) (fun c_303 => ?_)
  · exact NX n2 rc2 sz2 al c _ m pm h (by omega) (hC2.cg hf.1) (hq.cgV hf) hR
  · exact absurd rfl c_303
set_option maxRecDepth 100000 in
set_option maxHeartbeats 4000000 in
theorem lw_rule (C : zc X E b_La_law 4 "BranchTreesLaw" room_1) (S : zs X t) (V : zlw X b len xs) (hL : len ≤ 2048) {i n rc sz al c : Nat} {ad : Nat → Nat} {μ : Nat → Nat → Int32} {pa : Nat → Nat → Int64} (hi : i + 4 ≤ len) (hcc : c ≤ 200000) (hC : CI n rc sz al c μ) (hM : MM n rc sz μ pa μ pa)
    (NX : ∀ (n rc sz al c9 : Nat) (ad : Nat → Nat) (m : Nat → Nat → Int32) (pm : Nat → Nat → Int64) (h : zH), c9 ≤ c + 300 → CI n rc sz al c9 m → MM n rc sz m pm m pm → zRep E ad al m pm h → zz X E 4 ad (64 + 4 * al) (14990 + 30 * al) 594 [some (.ref b), some (.ref (ad 0)), some (.ref (ad 40)), some (.int (nI i))] [] h) : ∀ h, zRep E ad al μ pa h → zz X E 4 ad (64 + 4 * al) (14990 + 30 * al) 308 [some (.ref b), some (.ref (ad 0)), some (.ref (ad 40)), some (.int (nI i))] [] h := by
  intro h hR
  refine zz_aload_n C d_La_law_308 rfl rfl ?_
  refine zz_aload_n C d_La_law_309 rfl rfl ?_
  refine zz_iload_n C d_La_law_310 rfl rfl ?_
  refine zz_iconst (v := 1) C d_La_law_311 (by decide) ?_
  refine zz_iadd C d_La_law_312 ?_
  refine zz_sld (j := i + 1) C V d_La_law_313 (nI_add i 1) (by omega) hL ?_
  refine zz_aload_n C d_La_law_314 rfl rfl ?_
  refine zz_iload_n C d_La_law_315 rfl rfl ?_
  refine zz_iconst (v := 2) C d_La_law_316 (by decide) ?_
  refine zz_iadd C d_La_law_317 ?_
  refine zz_sld (j := i + 2) C V d_La_law_318 (nI_add i 2) (by omega) hL ?_
  refine zz_callVT C S d_La_law_319 mk_La_40 zy_BT_rule (kb := 0) (m_BT_rule hR) ⟨by decide, by decide⟩ (lw_room hC.al6) ((hR 0).trans rfl) rfl rfl rfl (Nat.le_of_ble_eq_true rfl) (fun r9 ad9 h q9 => ?_)
  obtain ⟨rfl, rfl, hR⟩ := q9
  obtain ⟨f1, f2, -⟩ := s_rule (l := X.2.1) (E := E) (ad := ad9) (x := xs (i + 1)) (v := xs (i + 2)) hC hM
  obtain ⟨-, -, n2, rc2, sz2, hC2, hX⟩ := s_rule (l := X.2.1) (E := E) (ad := ad9) (x := xs (i + 1)) (v := xs (i + 2)) hC (hM.cgM f1 f2)
  show zz X E 4 ad9 (64 + 4 * al) (14990 + 30 * al) 322 _ [.int (ruC μ pa (xs (i + 1)) (xs (i + 2))).1] h
  refine zz_aload_n C d_La_law_322 rfl rfl ?_
  refine zz_aload_n C d_La_law_323 rfl rfl ?_
  refine zz_iload_n C d_La_law_324 rfl rfl ?_
  refine zz_iconst (v := 1) C d_La_law_325 (by decide) ?_
  refine zz_iadd C d_La_law_326 ?_
  refine zz_sld (j := i + 1) C V d_La_law_327 (nI_add i 1) (by omega) hL ?_
  refine zz_aload_n C d_La_law_328 rfl rfl ?_
  refine zz_iload_n C d_La_law_329 rfl rfl ?_
  refine zz_iconst (v := 2) C d_La_law_330 (by decide) ?_
  refine zz_iadd C d_La_law_331 ?_
  refine zz_sld (j := i + 2) C V d_La_law_332 (nI_add i 2) (by omega) hL ?_
  refine zz_callX (e := 1) C hR d_La_law_333 mk_La_43 zy_Mo_rule hX ⟨by decide, by decide⟩ (lw_room hC.al6) rfl rfl rfl rfl (Nat.le_of_ble_eq_true rfl) (fun h m pm hf hq hR => ?_)
  refine zz_icmp_eq (tgt := 594) C d_La_law_336 (by decide) (fun c_336 => ?_) (fun c_336 => ?_)
  · exact NX n2 rc2 sz2 al c _ m pm h (by omega) (hC2.cg hf.1) (hq.cgV hf) hR
  · exact absurd rfl c_336
set_option maxRecDepth 100000 in
set_option maxHeartbeats 4000000 in
theorem lw_start (C : zc X E b_La_law 4 "BranchTreesLaw" room_1) (S : zs X t) (V : zlw X b len xs) (hL : len ≤ 2048) {i n rc sz al c : Nat} {ad : Nat → Nat} {μ : Nat → Nat → Int32} {pa : Nat → Nat → Int64} (hi : i + 4 ≤ len) (hcc : c ≤ 200000) (hC : CI n rc sz al c μ) (hM : MM n rc sz μ pa μ pa)
    (NX : ∀ (n rc sz al c9 : Nat) (ad : Nat → Nat) (m : Nat → Nat → Int32) (pm : Nat → Nat → Int64) (h : zH), c9 ≤ c + 300 → CI n rc sz al c9 m → MM n rc sz m pm m pm → zRep E ad al m pm h → zz X E 4 ad (64 + 4 * al) (14990 + 30 * al) 594 [some (.ref b), some (.ref (ad 0)), some (.ref (ad 40)), some (.int (nI i))] [] h) : ∀ h, zRep E ad al μ pa h → zz X E 4 ad (64 + 4 * al) (14990 + 30 * al) 341 [some (.ref b), some (.ref (ad 0)), some (.ref (ad 40)), some (.int (nI i))] [] h := by
  intro h hR
  refine zz_aload_n C d_La_law_341 rfl rfl ?_
  refine zz_aload_n C d_La_law_342 rfl rfl ?_
  refine zz_iload_n C d_La_law_343 rfl rfl ?_
  refine zz_iconst (v := 1) C d_La_law_344 (by decide) ?_
  refine zz_iadd C d_La_law_345 ?_
  refine zz_sld (j := i + 1) C V d_La_law_346 (nI_add i 1) (by omega) hL ?_
  refine zz_aload_n C d_La_law_347 rfl rfl ?_
  refine zz_iload_n C d_La_law_348 rfl rfl ?_
  refine zz_iconst (v := 2) C d_La_law_349 (by decide) ?_
  refine zz_iadd C d_La_law_350 ?_
  refine zz_sld (j := i + 2) C V d_La_law_351 (nI_add i 2) (by omega) hL ?_
  refine zz_callVw (e := 2) C hR d_La_law_352 mk_La_44 zy_BT_start (m_BT_start hC.n8 hC.N) ⟨by decide, by decide⟩ (lw_room hC.al6) rfl rfl rfl rfl (Nat.le_of_ble_eq_true rfl) (fun h hR => ?_)
  obtain ⟨f1, f2, -⟩ := s_start (l := X.2.1) (E := E) (ad := ad) (x := xs (i + 1)) (f := xs (i + 2)) hC hM
  obtain ⟨-, -, n2, rc2, sz2, hC2, hX⟩ := s_start (l := X.2.1) (E := E) (ad := ad) (x := xs (i + 1)) (f := xs (i + 2)) hC (hM.cgM f1 f2)
  refine zz_aload_n C d_La_law_355 rfl rfl ?_
  refine zz_aload_n C d_La_law_356 rfl rfl ?_
  refine zz_iload_n C d_La_law_357 rfl rfl ?_
  refine zz_iconst (v := 1) C d_La_law_358 (by decide) ?_
  refine zz_iadd C d_La_law_359 ?_
  refine zz_sld (j := i + 1) C V d_La_law_360 (nI_add i 1) (by omega) hL ?_
  refine zz_aload_n C d_La_law_361 rfl rfl ?_
  refine zz_iload_n C d_La_law_362 rfl rfl ?_
  refine zz_iconst (v := 2) C d_La_law_363 (by decide) ?_
  refine zz_iadd C d_La_law_364 ?_
  refine zz_sld (j := i + 2) C V d_La_law_365 (nI_add i 2) (by omega) hL ?_
  refine zz_callX (e := 2) C hR d_La_law_366 mk_La_47 zy_Mo_start hX ⟨by decide, by decide⟩ (lw_room hC.al6) rfl rfl rfl rfl (Nat.le_of_ble_eq_true rfl) (fun h m pm hf hq hR => ?_)
  refine zz_icmp_eq (tgt := 594) C d_La_law_369 (by decide) (fun c_369 => ?_) (fun c_369 => ?_)
  · exact NX n2 rc2 sz2 al c _ m pm h (by omega) (hC2.cg hf.1) (hq.cgV hf) hR
  · exact absurd rfl c_369
set_option maxRecDepth 100000 in
set_option maxHeartbeats 4000000 in
theorem lw_offer (C : zc X E b_La_law 4 "BranchTreesLaw" room_1) (S : zs X t) (V : zlw X b len xs) (hL : len ≤ 2048) {i n rc sz al c : Nat} {ad : Nat → Nat} {μ : Nat → Nat → Int32} {pa : Nat → Nat → Int64} (hi : i + 4 ≤ len) (hcc : c ≤ 200000) (hC : CI n rc sz al c μ) (hM : MM n rc sz μ pa μ pa)
    (NX : ∀ (n rc sz al c9 : Nat) (ad : Nat → Nat) (m : Nat → Nat → Int32) (pm : Nat → Nat → Int64) (h : zH), c9 ≤ c + 300 → CI n rc sz al c9 m → MM n rc sz m pm m pm → zRep E ad al m pm h → zz X E 4 ad (64 + 4 * al) (14990 + 30 * al) 594 [some (.ref b), some (.ref (ad 0)), some (.ref (ad 40)), some (.int (nI i))] [] h) : ∀ h, zRep E ad al μ pa h → zz X E 4 ad (64 + 4 * al) (14990 + 30 * al) 374 [some (.ref b), some (.ref (ad 0)), some (.ref (ad 40)), some (.int (nI i))] [] h := by
  intro h hR
  refine zz_aload_n C d_La_law_374 rfl rfl ?_
  refine zz_callVw (e := 2) C hR d_La_law_375 mk_La_48 zy_BT_offer (m_BT_offer hC.n8 hC.N hC.r16 hC.M) ⟨by decide, by decide⟩ (lw_room hC.al6) rfl rfl rfl rfl (Nat.le_of_ble_eq_true rfl) (fun h hR => ?_)
  obtain ⟨f1, f2, -⟩ := s_offer (l := X.2.1) (E := E) (ad := ad)  hC hM
  obtain ⟨-, -, n2, rc2, sz2, hC2, hX⟩ := s_offer (l := X.2.1) (E := E) (ad := ad)  hC (hM.cgM f1 f2)
  refine zz_aload_n C d_La_law_378 rfl rfl ?_
  refine zz_callX (e := 1) C hR d_La_law_379 mk_La_51 zy_Mo_offer hX ⟨by decide, by decide⟩ (lw_room hC.al6) rfl rfl rfl rfl (Nat.le_of_ble_eq_true rfl) (fun h m pm hf hq hR => ?_)
  refine zz_icmp_eq (tgt := 594) C d_La_law_382 (by decide) (fun c_382 => ?_) (fun c_382 => ?_)
  · exact NX n2 rc2 sz2 al c _ m pm h (by omega) (hC2.cg hf.1) (hq.cgV hf) hR
  · exact absurd rfl c_382
set_option maxRecDepth 100000 in
set_option maxHeartbeats 4000000 in
theorem lw_run (C : zc X E b_La_law 4 "BranchTreesLaw" room_1) (S : zs X t) (V : zlw X b len xs) (hL : len ≤ 2048) {i n rc sz al c : Nat} {ad : Nat → Nat} {μ : Nat → Nat → Int32} {pa : Nat → Nat → Int64} (hi : i + 4 ≤ len) (hcc : c ≤ 200000) (hC : CI n rc sz al c μ) (hM : MM n rc sz μ pa μ pa)
    (NX : ∀ (n rc sz al c9 : Nat) (ad : Nat → Nat) (m : Nat → Nat → Int32) (pm : Nat → Nat → Int64) (h : zH), c9 ≤ c + 300 → CI n rc sz al c9 m → MM n rc sz m pm m pm → zRep E ad al m pm h → zz X E 4 ad (64 + 4 * al) (14990 + 30 * al) 594 [some (.ref b), some (.ref (ad 0)), some (.ref (ad 40)), some (.int (nI i))] [] h) : ∀ h, zRep E ad al μ pa h → zz X E 4 ad (64 + 4 * al) (14990 + 30 * al) 387 [some (.ref b), some (.ref (ad 0)), some (.ref (ad 40)), some (.int (nI i))] [] h := by
  intro h hR
  refine zz_aload_n C d_La_law_387 rfl rfl ?_
  refine zz_aload_n C d_La_law_388 rfl rfl ?_
  refine zz_iload_n C d_La_law_389 rfl rfl ?_
  refine zz_iconst (v := 1) C d_La_law_390 (by decide) ?_
  refine zz_iadd C d_La_law_391 ?_
  refine zz_sld (j := i + 1) C V d_La_law_392 (nI_add i 1) (by omega) hL ?_
  obtain ⟨t1, t2⟩ := ru_le (pv := pa) (x := xs (i + 1)) hC
  refine zz_callV C d_La_law_393 mk_La_52 zy_BT_run (kb := 0) (m_BT_run (x := xs (i + 1)) hR ⟨hC.S, hC.szal, hC.al6, hC.N, hC.M⟩ hC.n8 hC.r16) ⟨Nat.le_of_ble_eq_true rfl, Nat.le_of_ble_eq_true rfl⟩ ⟨by show 64 + 4 * al + 4 * ((ruF μ pa al n rc (xs (i + 1))).2.1 - al) ≤ 600000; omega, by show 14990 + 30 * al + 30 * ((ruF μ pa al n rc (xs (i + 1))).2.1 - al) ≤ 7302250; omega⟩ ((hR 0).trans rfl) rfl rfl rfl (Nat.le_of_ble_eq_true rfl) (fun r9 ad9 h q9 => ?_)
  obtain ⟨rfl, hag, hR⟩ := q9
  rw [← hag 0 (by omega), ← hag 40 (by omega)]
  obtain ⟨f1, f2, -⟩ := s_run (l := X.2.1) (E := E) (ad := ad9) (al2 := (ruF μ pa al n rc (xs (i + 1))).2.1) (x := xs (i + 1)) hC hM (by omega)
  obtain ⟨-, -, hX⟩ := s_run (l := X.2.1) (E := E) (ad := ad9) (al2 := (ruF μ pa al n rc (xs (i + 1))).2.1) (x := xs (i + 1)) hC (hM.cgM f1 f2) (by omega)
  show zz X E 4 ad9 (64 + 4 * al + 4 * ((ruF μ pa al n rc (xs (i + 1))).2.1 - al)) (14990 + 30 * al + 30 * ((ruF μ pa al n rc (xs (i + 1))).2.1 - al)) 396 _ [.int (ruF μ pa al n rc (xs (i + 1))).1] h
  rw [show 64 + 4 * al + 4 * ((ruF μ pa al n rc (xs (i + 1))).2.1 - al) = 64 + 4 * (ruF μ pa al n rc (xs (i + 1))).2.1 by omega, show 14990 + 30 * al + 30 * ((ruF μ pa al n rc (xs (i + 1))).2.1 - al) = 14990 + 30 * (ruF μ pa al n rc (xs (i + 1))).2.1 by omega]
  refine zz_aload_n C d_La_law_396 rfl rfl ?_
  refine zz_aload_n C d_La_law_397 rfl rfl ?_
  refine zz_iload_n C d_La_law_398 rfl rfl ?_
  refine zz_iconst (v := 1) C d_La_law_399 (by decide) ?_
  refine zz_iadd C d_La_law_400 ?_
  refine zz_sld (j := i + 1) C V d_La_law_401 (nI_add i 1) (by omega) hL ?_
  refine zz_callX (e := 5) C hR d_La_law_402 mk_La_56 zy_Mo_run hX ⟨by decide, by decide⟩ (lw_room t2) rfl rfl rfl rfl (Nat.le_of_ble_eq_true rfl) (fun h m pm hf hq hR => ?_)
  obtain ⟨sz2, k1, k2⟩ := hq
  refine zz_icmp_eq (tgt := 594) C d_La_law_405 (by decide) (fun c_405 => ?_) (fun c_405 => ?_)
  · exact NX n rc sz2 _ (c + 300) _ m pm h (by omega) (k1.cg hf.1) (k2.cgV hf) hR
  · exact absurd rfl c_405
set_option maxRecDepth 100000 in
set_option maxHeartbeats 4000000 in
theorem lw_restart (C : zc X E b_La_law 4 "BranchTreesLaw" room_1) (S : zs X t) (V : zlw X b len xs) (hL : len ≤ 2048) {i n rc sz al c : Nat} {ad : Nat → Nat} {μ : Nat → Nat → Int32} {pa : Nat → Nat → Int64} (hi : i + 4 ≤ len) (hcc : c ≤ 200000) (hC : CI n rc sz al c μ) (hM : MM n rc sz μ pa μ pa)
    (NX : ∀ (n rc sz al c9 : Nat) (ad : Nat → Nat) (m : Nat → Nat → Int32) (pm : Nat → Nat → Int64) (h : zH), c9 ≤ c + 300 → CI n rc sz al c9 m → MM n rc sz m pm m pm → zRep E ad al m pm h → zz X E 4 ad (64 + 4 * al) (14990 + 30 * al) 594 [some (.ref b), some (.ref (ad 0)), some (.ref (ad 40)), some (.int (nI i))] [] h) : ∀ h, zRep E ad al μ pa h → zz X E 4 ad (64 + 4 * al) (14990 + 30 * al) 410 [some (.ref b), some (.ref (ad 0)), some (.ref (ad 40)), some (.int (nI i))] [] h := by
  intro h hR
  refine zz_aload_n C d_La_law_410 rfl rfl ?_
  refine zz_callVw (e := 1) C hR d_La_law_411 mk_La_57 zy_BT_restart m_BT_restart ⟨by decide, by decide⟩ (lw_room hC.al6) rfl rfl rfl rfl (Nat.le_of_ble_eq_true rfl) (fun h hR => ?_)
  obtain ⟨f1, f2, -⟩ := s_restart (l := X.2.1) (E := E) (ad := ad)  hC hM
  obtain ⟨-, -, n2, rc2, sz2, hC2, hX⟩ := s_restart (l := X.2.1) (E := E) (ad := ad)  hC (hM.cgM f1 f2)
  refine zz_aload_n C d_La_law_414 rfl rfl ?_
  refine zz_callX (e := 0) C hR d_La_law_415 mk_La_60 zy_Mo_restart hX ⟨by decide, by decide⟩ (lw_room hC.al6) rfl rfl rfl rfl (Nat.le_of_ble_eq_true rfl) (fun h m pm hf hq hR => ?_)
  refine zz_icmp_eq (tgt := 594) C d_La_law_418 (by decide) (fun c_418 => ?_) (fun c_418 => ?_)
  · exact NX n2 rc2 sz2 al c _ m pm h (by omega) (hC2.cg hf.1) (hq.cgV hf) hR
  · exact absurd rfl c_418
set_option maxRecDepth 100000 in
set_option maxHeartbeats 4000000 in
theorem lw_best (C : zc X E b_La_law 4 "BranchTreesLaw" room_1) (S : zs X t) (V : zlw X b len xs) (hL : len ≤ 2048) {i n rc sz al c : Nat} {ad : Nat → Nat} {μ : Nat → Nat → Int32} {pa : Nat → Nat → Int64} (hi : i + 4 ≤ len) (hcc : c ≤ 200000) (hC : CI n rc sz al c μ) (hM : MM n rc sz μ pa μ pa)
    (NX : ∀ (n rc sz al c9 : Nat) (ad : Nat → Nat) (m : Nat → Nat → Int32) (pm : Nat → Nat → Int64) (h : zH), c9 ≤ c + 300 → CI n rc sz al c9 m → MM n rc sz m pm m pm → zRep E ad al m pm h → zz X E 4 ad (64 + 4 * al) (14990 + 30 * al) 594 [some (.ref b), some (.ref (ad 0)), some (.ref (ad 40)), some (.int (nI i))] [] h) : ∀ h, zRep E ad al μ pa h → zz X E 4 ad (64 + 4 * al) (14990 + 30 * al) 423 [some (.ref b), some (.ref (ad 0)), some (.ref (ad 40)), some (.int (nI i))] [] h := by
  intro h hR
  refine zz_aload_n C d_La_law_423 rfl rfl ?_
  refine zz_aload_n C d_La_law_424 rfl rfl ?_
  refine zz_iload_n C d_La_law_425 rfl rfl ?_
  refine zz_iconst (v := 1) C d_La_law_426 (by decide) ?_
  refine zz_iadd C d_La_law_427 ?_
  refine zz_sld (j := i + 1) C V d_La_law_428 (nI_add i 1) (by omega) hL ?_
  refine zz_callVr (e := 1) C hR d_La_law_429 mk_La_61 zy_BT_best (m_BT_best hC.n8 hC.N) ⟨by decide, by decide⟩ (lw_room hC.al6) rfl rfl rfl rfl (Nat.le_of_ble_eq_true rfl) ?_
  obtain ⟨-, -, n2, rc2, sz2, hC2, hX⟩ := s_best (l := X.2.1) (E := E) (ad := ad) (x := xs (i + 1)) hC hM
  refine zz_aload_n C d_La_law_432 rfl rfl ?_
  refine zz_aload_n C d_La_law_433 rfl rfl ?_
  refine zz_iload_n C d_La_law_434 rfl rfl ?_
  refine zz_iconst (v := 1) C d_La_law_435 (by decide) ?_
  refine zz_iadd C d_La_law_436 ?_
  refine zz_sld (j := i + 1) C V d_La_law_437 (nI_add i 1) (by omega) hL ?_
  refine zz_callX (e := 1) C hR d_La_law_438 mk_La_64 zy_Mo_best hX ⟨by decide, by decide⟩ (lw_room hC.al6) rfl rfl rfl rfl (Nat.le_of_ble_eq_true rfl) (fun h m pm hf hq hR => ?_)
  refine zz_icmp_eq (tgt := 594) C d_La_law_441 (by decide) (fun c_441 => ?_) (fun c_441 => ?_)
  · exact NX n2 rc2 sz2 al c _ m pm h (by omega) (hC2.cg hf.1) (hq.cgV hf) hR
  · exact absurd rfl c_441
set_option maxRecDepth 100000 in
set_option maxHeartbeats 4000000 in
theorem lw_bound (C : zc X E b_La_law 4 "BranchTreesLaw" room_1) (S : zs X t) (V : zlw X b len xs) (hL : len ≤ 2048) {i n rc sz al c : Nat} {ad : Nat → Nat} {μ : Nat → Nat → Int32} {pa : Nat → Nat → Int64} (hi : i + 4 ≤ len) (hcc : c ≤ 200000) (hC : CI n rc sz al c μ) (hM : MM n rc sz μ pa μ pa)
    (NX : ∀ (n rc sz al c9 : Nat) (ad : Nat → Nat) (m : Nat → Nat → Int32) (pm : Nat → Nat → Int64) (h : zH), c9 ≤ c + 300 → CI n rc sz al c9 m → MM n rc sz m pm m pm → zRep E ad al m pm h → zz X E 4 ad (64 + 4 * al) (14990 + 30 * al) 594 [some (.ref b), some (.ref (ad 0)), some (.ref (ad 40)), some (.int (nI i))] [] h) : ∀ h, zRep E ad al μ pa h → zz X E 4 ad (64 + 4 * al) (14990 + 30 * al) 446 [some (.ref b), some (.ref (ad 0)), some (.ref (ad 40)), some (.int (nI i))] [] h := by
  intro h hR
  refine zz_aload_n C d_La_law_446 rfl rfl ?_
  refine zz_callVr (e := 2) C hR d_La_law_447 mk_La_65 zy_BT_bound (m_BT_bound hC.S hC.szal hC.al6) ⟨by decide, by decide⟩ (lw_room hC.al6) rfl rfl rfl rfl (Nat.le_of_ble_eq_true rfl) ?_
  obtain ⟨-, -, n2, rc2, sz2, hC2, hX⟩ := s_bound (l := X.2.1) (E := E) (ad := ad)  hC hM
  refine zz_aload_n C d_La_law_450 rfl rfl ?_
  refine zz_callX (e := 2) C hR d_La_law_451 mk_La_68 zy_Mo_bound hX ⟨by decide, by decide⟩ (lw_room hC.al6) rfl rfl rfl rfl (Nat.le_of_ble_eq_true rfl) (fun h m pm hf hq hR => ?_)
  refine zz_icmp_eq (tgt := 594) C d_La_law_454 (by decide) (fun c_454 => ?_) (fun c_454 => ?_)
  · exact NX n2 rc2 sz2 al c _ m pm h (by omega) (hC2.cg hf.1) (hq.cgV hf) hR
  · exact absurd rfl c_454
set_option maxRecDepth 100000 in
set_option maxHeartbeats 4000000 in
theorem lw_node (C : zc X E b_La_law 4 "BranchTreesLaw" room_1) (S : zs X t) (V : zlw X b len xs) (hL : len ≤ 2048) {i n rc sz al c : Nat} {ad : Nat → Nat} {μ : Nat → Nat → Int32} {pa : Nat → Nat → Int64} (hi : i + 4 ≤ len) (hcc : c ≤ 200000) (hC : CI n rc sz al c μ) (hM : MM n rc sz μ pa μ pa)
    (NX : ∀ (n rc sz al c9 : Nat) (ad : Nat → Nat) (m : Nat → Nat → Int32) (pm : Nat → Nat → Int64) (h : zH), c9 ≤ c + 300 → CI n rc sz al c9 m → MM n rc sz m pm m pm → zRep E ad al m pm h → zz X E 4 ad (64 + 4 * al) (14990 + 30 * al) 594 [some (.ref b), some (.ref (ad 0)), some (.ref (ad 40)), some (.int (nI i))] [] h) : ∀ h, zRep E ad al μ pa h → zz X E 4 ad (64 + 4 * al) (14990 + 30 * al) 459 [some (.ref b), some (.ref (ad 0)), some (.ref (ad 40)), some (.int (nI i))] [] h := by
  intro h hR
  refine zz_aload_n C d_La_law_459 rfl rfl ?_
  refine zz_aload_n C d_La_law_460 rfl rfl ?_
  refine zz_iload_n C d_La_law_461 rfl rfl ?_
  refine zz_iconst (v := 1) C d_La_law_462 (by decide) ?_
  refine zz_iadd C d_La_law_463 ?_
  refine zz_sld (j := i + 1) C V d_La_law_464 (nI_add i 1) (by omega) hL ?_
  refine zz_aload_n C d_La_law_465 rfl rfl ?_
  refine zz_iload_n C d_La_law_466 rfl rfl ?_
  refine zz_iconst (v := 2) C d_La_law_467 (by decide) ?_
  refine zz_iadd C d_La_law_468 ?_
  refine zz_sld (j := i + 2) C V d_La_law_469 (nI_add i 2) (by omega) hL ?_
  refine zz_callVr (e := 1) C hR d_La_law_470 mk_La_69 zy_BT_node (m_BT_node hC.S hC.szal hC.al6) ⟨by decide, by decide⟩ (lw_room hC.al6) rfl rfl rfl rfl (Nat.le_of_ble_eq_true rfl) ?_
  obtain ⟨-, -, n2, rc2, sz2, hC2, hX⟩ := s_node (l := X.2.1) (E := E) (ad := ad) (x := xs (i + 1)) (w := xs (i + 2)) hC hM
  refine zz_aload_n C d_La_law_473 rfl rfl ?_
  refine zz_aload_n C d_La_law_474 rfl rfl ?_
  refine zz_iload_n C d_La_law_475 rfl rfl ?_
  refine zz_iconst (v := 1) C d_La_law_476 (by decide) ?_
  refine zz_iadd C d_La_law_477 ?_
  refine zz_sld (j := i + 1) C V d_La_law_478 (nI_add i 1) (by omega) hL ?_
  refine zz_aload_n C d_La_law_479 rfl rfl ?_
  refine zz_iload_n C d_La_law_480 rfl rfl ?_
  refine zz_iconst (v := 2) C d_La_law_481 (by decide) ?_
  refine zz_iadd C d_La_law_482 ?_
  refine zz_sld (j := i + 2) C V d_La_law_483 (nI_add i 2) (by omega) hL ?_
  refine zz_callX (e := 2) C hR d_La_law_484 mk_La_72 zy_Mo_node hX ⟨by decide, by decide⟩ (lw_room hC.al6) rfl rfl rfl rfl (Nat.le_of_ble_eq_true rfl) (fun h m pm hf hq hR => ?_)
  refine zz_icmp_eq (tgt := 594) C d_La_law_487 (by decide) (fun c_487 => ?_) (fun c_487 => ?_)
  · exact NX n2 rc2 sz2 al c _ m pm h (by omega) (hC2.cg hf.1) (hq.cgV hf) hR
  · exact absurd rfl c_487
set_option maxRecDepth 100000 in
set_option maxHeartbeats 4000000 in
theorem lw_boundOf (C : zc X E b_La_law 4 "BranchTreesLaw" room_1) (S : zs X t) (V : zlw X b len xs) (hL : len ≤ 2048) {i n rc sz al c : Nat} {ad : Nat → Nat} {μ : Nat → Nat → Int32} {pa : Nat → Nat → Int64} (hi : i + 4 ≤ len) (hcc : c ≤ 200000) (hC : CI n rc sz al c μ) (hM : MM n rc sz μ pa μ pa)
    (NX : ∀ (n rc sz al c9 : Nat) (ad : Nat → Nat) (m : Nat → Nat → Int32) (pm : Nat → Nat → Int64) (h : zH), c9 ≤ c + 300 → CI n rc sz al c9 m → MM n rc sz m pm m pm → zRep E ad al m pm h → zz X E 4 ad (64 + 4 * al) (14990 + 30 * al) 594 [some (.ref b), some (.ref (ad 0)), some (.ref (ad 40)), some (.int (nI i))] [] h) : ∀ h, zRep E ad al μ pa h → zz X E 4 ad (64 + 4 * al) (14990 + 30 * al) 492 [some (.ref b), some (.ref (ad 0)), some (.ref (ad 40)), some (.int (nI i))] [] h := by
  intro h hR
  refine zz_aload_n C d_La_law_492 rfl rfl ?_
  refine zz_aload_n C d_La_law_493 rfl rfl ?_
  refine zz_iload_n C d_La_law_494 rfl rfl ?_
  refine zz_iconst (v := 1) C d_La_law_495 (by decide) ?_
  refine zz_iadd C d_La_law_496 ?_
  refine zz_sld (j := i + 1) C V d_La_law_497 (nI_add i 1) (by omega) hL ?_
  refine zz_aload_n C d_La_law_498 rfl rfl ?_
  refine zz_iload_n C d_La_law_499 rfl rfl ?_
  refine zz_iconst (v := 2) C d_La_law_500 (by decide) ?_
  refine zz_iadd C d_La_law_501 ?_
  refine zz_sld (j := i + 2) C V d_La_law_502 (nI_add i 2) (by omega) hL ?_
  refine zz_aload_n C d_La_law_503 rfl rfl ?_
  refine zz_iload_n C d_La_law_504 rfl rfl ?_
  refine zz_iconst (v := 3) C d_La_law_505 (by decide) ?_
  refine zz_iadd C d_La_law_506 ?_
  refine zz_sld (j := i + 3) C V d_La_law_507 (nI_add i 3) (by omega) hL ?_
  refine zz_callVr (e := 1) C hR d_La_law_508 mk_La_73 zy_BT_boundOf (m_BT_boundOf hC.S hC.szal hC.al6 hC.n8 hC.N) ⟨by decide, by decide⟩ (lw_room hC.al6) rfl rfl rfl rfl (Nat.le_of_ble_eq_true rfl) ?_
  obtain ⟨-, -, n2, rc2, sz2, hC2, hX⟩ := s_boundOf (l := X.2.1) (E := E) (ad := ad) (x := xs (i + 1)) (y := xs (i + 2)) (w := xs (i + 3)) hC hM
  refine zz_aload_n C d_La_law_511 rfl rfl ?_
  refine zz_aload_n C d_La_law_512 rfl rfl ?_
  refine zz_iload_n C d_La_law_513 rfl rfl ?_
  refine zz_iconst (v := 1) C d_La_law_514 (by decide) ?_
  refine zz_iadd C d_La_law_515 ?_
  refine zz_sld (j := i + 1) C V d_La_law_516 (nI_add i 1) (by omega) hL ?_
  refine zz_aload_n C d_La_law_517 rfl rfl ?_
  refine zz_iload_n C d_La_law_518 rfl rfl ?_
  refine zz_iconst (v := 2) C d_La_law_519 (by decide) ?_
  refine zz_iadd C d_La_law_520 ?_
  refine zz_sld (j := i + 2) C V d_La_law_521 (nI_add i 2) (by omega) hL ?_
  refine zz_aload_n C d_La_law_522 rfl rfl ?_
  refine zz_iload_n C d_La_law_523 rfl rfl ?_
  refine zz_iconst (v := 3) C d_La_law_524 (by decide) ?_
  refine zz_iadd C d_La_law_525 ?_
  refine zz_sld (j := i + 3) C V d_La_law_526 (nI_add i 3) (by omega) hL ?_
  refine zz_callX (e := 2) C hR d_La_law_527 mk_La_76 zy_Mo_boundOf hX ⟨by decide, by decide⟩ (lw_room hC.al6) rfl rfl rfl rfl (Nat.le_of_ble_eq_true rfl) (fun h m pm hf hq hR => ?_)
  refine zz_icmp_eq (tgt := 594) C d_La_law_530 (by decide) (fun c_530 => ?_) (fun c_530 => ?_)
  · exact NX n2 rc2 sz2 al c _ m pm h (by omega) (hC2.cg hf.1) (hq.cgV hf) hR
  · exact absurd rfl c_530
set_option maxRecDepth 100000 in
set_option maxHeartbeats 4000000 in
theorem lw_price (C : zc X E b_La_law 4 "BranchTreesLaw" room_1) (S : zs X t) (V : zlw X b len xs) (hL : len ≤ 2048) {i n rc sz al c : Nat} {ad : Nat → Nat} {μ : Nat → Nat → Int32} {pa : Nat → Nat → Int64} (hi : i + 4 ≤ len) (hcc : c ≤ 200000) (hC : CI n rc sz al c μ) (hM : MM n rc sz μ pa μ pa)
    (NX : ∀ (n rc sz al c9 : Nat) (ad : Nat → Nat) (m : Nat → Nat → Int32) (pm : Nat → Nat → Int64) (h : zH), c9 ≤ c + 300 → CI n rc sz al c9 m → MM n rc sz m pm m pm → zRep E ad al m pm h → zz X E 4 ad (64 + 4 * al) (14990 + 30 * al) 594 [some (.ref b), some (.ref (ad 0)), some (.ref (ad 40)), some (.int (nI i))] [] h) : ∀ h, zRep E ad al μ pa h → zz X E 4 ad (64 + 4 * al) (14990 + 30 * al) 535 [some (.ref b), some (.ref (ad 0)), some (.ref (ad 40)), some (.int (nI i))] [] h := by
  intro h hR
  refine zz_aload_n C d_La_law_535 rfl rfl ?_
  refine zz_aload_n C d_La_law_536 rfl rfl ?_
  refine zz_iload_n C d_La_law_537 rfl rfl ?_
  refine zz_iconst (v := 1) C d_La_law_538 (by decide) ?_
  refine zz_iadd C d_La_law_539 ?_
  refine zz_sld (j := i + 1) C V d_La_law_540 (nI_add i 1) (by omega) hL ?_
  refine zz_callVr (e := 1) C hR d_La_law_541 mk_La_77 zy_BT_price (m_BT_price hC.n8 hC.N) ⟨by decide, by decide⟩ (lw_room hC.al6) rfl rfl rfl rfl (Nat.le_of_ble_eq_true rfl) ?_
  obtain ⟨-, -, n2, rc2, sz2, hC2, hX⟩ := s_price (l := X.2.1) (E := E) (ad := ad) (x := xs (i + 1)) hC hM
  refine zz_aload_n C d_La_law_544 rfl rfl ?_
  refine zz_aload_n C d_La_law_545 rfl rfl ?_
  refine zz_iload_n C d_La_law_546 rfl rfl ?_
  refine zz_iconst (v := 1) C d_La_law_547 (by decide) ?_
  refine zz_iadd C d_La_law_548 ?_
  refine zz_sld (j := i + 1) C V d_La_law_549 (nI_add i 1) (by omega) hL ?_
  refine zz_callX (e := 2) C hR d_La_law_550 mk_La_80 zy_Mo_price hX ⟨by decide, by decide⟩ (lw_room hC.al6) rfl rfl rfl rfl (Nat.le_of_ble_eq_true rfl) (fun h m pm hf hq hR => ?_)
  refine zz_icmp_eq (tgt := 594) C d_La_law_553 (by decide) (fun c_553 => ?_) (fun c_553 => ?_)
  · exact NX n2 rc2 sz2 al c _ m pm h (by omega) (hC2.cg hf.1) (hq.cgV hf) hR
  · exact absurd rfl c_553
set_option maxRecDepth 100000 in
set_option maxHeartbeats 4000000 in
theorem lw_check (C : zc X E b_La_law 4 "BranchTreesLaw" room_1) (S : zs X t) (V : zlw X b len xs) (hL : len ≤ 2048) {i n rc sz al c : Nat} {ad : Nat → Nat} {μ : Nat → Nat → Int32} {pa : Nat → Nat → Int64} (hi : i + 4 ≤ len) (hcc : c ≤ 200000) (hC : CI n rc sz al c μ) (hM : MM n rc sz μ pa μ pa)
    (NX : ∀ (n rc sz al c9 : Nat) (ad : Nat → Nat) (m : Nat → Nat → Int32) (pm : Nat → Nat → Int64) (h : zH), c9 ≤ c + 300 → CI n rc sz al c9 m → MM n rc sz m pm m pm → zRep E ad al m pm h → zz X E 4 ad (64 + 4 * al) (14990 + 30 * al) 594 [some (.ref b), some (.ref (ad 0)), some (.ref (ad 40)), some (.int (nI i))] [] h) : ∀ h, zRep E ad al μ pa h → zz X E 4 ad (64 + 4 * al) (14990 + 30 * al) 558 [some (.ref b), some (.ref (ad 0)), some (.ref (ad 40)), some (.int (nI i))] [] h := by
  intro h hR
  refine zz_aload_n C d_La_law_558 rfl rfl ?_
  refine zz_callVw (e := 6) C hR d_La_law_559 mk_La_81 zy_BT_check (m_BT_check hC.S hC.szal hC.al6 hC.n8 hC.N hC.r16 hC.M) ⟨by decide, by decide⟩ (lw_room hC.al6) rfl rfl rfl rfl (Nat.le_of_ble_eq_true rfl) (fun h hR => ?_)
  obtain ⟨f1, f2, -⟩ := s_check (l := X.2.1) (E := E) (ad := ad)  hC hM
  obtain ⟨-, -, n2, rc2, sz2, hC2, hX⟩ := s_check (l := X.2.1) (E := E) (ad := ad)  hC (hM.cgM f1 f2)
  refine zz_aload_n C d_La_law_562 rfl rfl ?_
  refine zz_callX (e := 3) C hR d_La_law_563 mk_La_84 zy_Mo_check hX ⟨by decide, by decide⟩ (lw_room hC.al6) rfl rfl rfl rfl (Nat.le_of_ble_eq_true rfl) (fun h m pm hf hq hR => ?_)
  refine zz_icmp_eq (tgt := 594) C d_La_law_566 (by decide) (fun c_566 => ?_) (fun c_566 => ?_)
  · exact NX n2 rc2 sz2 al c _ m pm h (by omega) (hC2.cg hf.1) (hq.cgV hf) hR
  · exact absurd rfl c_566
set_option maxRecDepth 100000 in
set_option maxHeartbeats 4000000 in
theorem lw_count (C : zc X E b_La_law 4 "BranchTreesLaw" room_1) (S : zs X t) (V : zlw X b len xs) (hL : len ≤ 2048) {i n rc sz al c : Nat} {ad : Nat → Nat} {μ : Nat → Nat → Int32} {pa : Nat → Nat → Int64} (hi : i + 4 ≤ len) (hcc : c ≤ 200000) (hC : CI n rc sz al c μ) (hM : MM n rc sz μ pa μ pa)
    (NX : ∀ (n rc sz al c9 : Nat) (ad : Nat → Nat) (m : Nat → Nat → Int32) (pm : Nat → Nat → Int64) (h : zH), c9 ≤ c + 300 → CI n rc sz al c9 m → MM n rc sz m pm m pm → zRep E ad al m pm h → zz X E 4 ad (64 + 4 * al) (14990 + 30 * al) 594 [some (.ref b), some (.ref (ad 0)), some (.ref (ad 40)), some (.int (nI i))] [] h) : ∀ h, zRep E ad al μ pa h → zz X E 4 ad (64 + 4 * al) (14990 + 30 * al) 571 [some (.ref b), some (.ref (ad 0)), some (.ref (ad 40)), some (.int (nI i))] [] h := by
  intro h hR
  refine zz_aload_n C d_La_law_571 rfl rfl ?_
  refine zz_aload_n C d_La_law_572 rfl rfl ?_
  refine zz_iload_n C d_La_law_573 rfl rfl ?_
  refine zz_iconst (v := 1) C d_La_law_574 (by decide) ?_
  refine zz_iadd C d_La_law_575 ?_
  refine zz_sld (j := i + 1) C V d_La_law_576 (nI_add i 1) (by omega) hL ?_
  refine zz_callVr (e := 1) C hR d_La_law_577 mk_La_85 zy_BT_count (m_BT_count hC.S hC.szal hC.al6) ⟨by decide, by decide⟩ (lw_room hC.al6) rfl rfl rfl rfl (Nat.le_of_ble_eq_true rfl) ?_
  obtain ⟨-, -, n2, rc2, sz2, hC2, hX⟩ := s_count (l := X.2.1) (E := E) (ad := ad) (x := xs (i + 1)) hC hM
  refine zz_aload_n C d_La_law_580 rfl rfl ?_
  refine zz_aload_n C d_La_law_581 rfl rfl ?_
  refine zz_iload_n C d_La_law_582 rfl rfl ?_
  refine zz_iconst (v := 1) C d_La_law_583 (by decide) ?_
  refine zz_iadd C d_La_law_584 ?_
  refine zz_sld (j := i + 1) C V d_La_law_585 (nI_add i 1) (by omega) hL ?_
  refine zz_callX (e := 1) C hR d_La_law_586 mk_La_88 zy_Mo_count hX ⟨by decide, by decide⟩ (lw_room hC.al6) rfl rfl rfl rfl (Nat.le_of_ble_eq_true rfl) (fun h m pm hf hq hR => ?_)
  refine zz_icmp_eq (tgt := 594) C d_La_law_589 (by decide) (fun c_589 => ?_) (fun c_589 => ?_)
  · exact NX n2 rc2 sz2 al c _ m pm h (by omega) (hC2.cg hf.1) (hq.cgV hf) hR
  · exact absurd rfl c_589
set_option maxRecDepth 100000 in
set_option maxHeartbeats 4000000 in
theorem law_loop (C : zc X E b_La_law 4 "BranchTreesLaw" room_1) (S : zs X t) (V : zlw X b len xs) (hL : len ≤ 2048) :
    ∀ (d i n rc sz al c : Nat) (ad : Nat → Nat) (μ : Nat → Nat → Int32) (pa : Nat → Nat → Int64), len ≤ i + d → c ≤ 75 * i → i ≤ len → CI n rc sz al c μ → MM n rc sz μ pa μ pa → ∀ h, zRep E ad al μ pa h → zz X E 4 ad (64 + 4 * al) (14990 + 30 * al) 18 [some (.ref b), some (.ref (ad 0)), some (.ref (ad 40)), some (.int (nI i))] [] h := by
  intro d
  induction d with
  | zero =>
    intro i n rc sz al c ad μ pa hd hc hi hC hM h hR
    have hal := hC.al6
    have e4 : (4 : Int32).toInt = 4 := by decide
    have el : (nI len).toInt = len := nI_toInt (by omega)
    have ei : (nI i).toInt = i := nI_toInt (by omega)
    have es : (nI len - 4).toInt = (len : Int) - 4 := by rw [tI_sub (by omega) (by omega), el, e4]
    refine zz_iload_n C d_La_law_18 rfl rfl ?_
    refine zz_aload_n C d_La_law_19 rfl rfl ?_
    refine zz_slen C V d_La_law_20 ?_
    refine zz_iconst (v := 4) C d_La_law_21 (by decide) ?_
    refine zz_isub C d_La_law_22 ?_
    refine zz_icmp_gt (tgt := 600) C d_La_law_23 (by decide) (fun c_23 => ?_) (fun c_23 => ?_)
    · refine zz_iconst (v := 1) C d_La_law_600 (by decide) ?_
      exact zz_lend C V d_La_law_601 (by omega) (by omega)
    · exact absurd (by rw [Int32.lt_iff_toInt_lt, es, ei]; omega) c_23
  | succ d ih =>
    intro i n rc sz al c ad μ pa hd hc hi hC hM h hR
    have hal := hC.al6
    have e4 : (4 : Int32).toInt = 4 := by decide
    have el : (nI len).toInt = len := nI_toInt (by omega)
    have ei : (nI i).toInt = i := nI_toInt (by omega)
    have es : (nI len - 4).toInt = (len : Int) - 4 := by rw [tI_sub (by omega) (by omega), el, e4]
    refine zz_iload_n C d_La_law_18 rfl rfl ?_
    refine zz_aload_n C d_La_law_19 rfl rfl ?_
    refine zz_slen C V d_La_law_20 ?_
    refine zz_iconst (v := 4) C d_La_law_21 (by decide) ?_
    refine zz_isub C d_La_law_22 ?_
    refine zz_icmp_gt (tgt := 600) C d_La_law_23 (by decide) (fun c_23 => ?_) (fun c_23 => ?_)
    · refine zz_iconst (v := 1) C d_La_law_600 (by decide) ?_
      exact zz_lend C V d_La_law_601 (by omega) (by omega)
    · have hi4 : i + 4 ≤ len := by rw [Int32.lt_iff_toInt_lt, es, ei] at c_23; omega
      have NX : ∀ (n rc sz al c9 : Nat) (ad : Nat → Nat) (m : Nat → Nat → Int32) (pm : Nat → Nat → Int64) (h : zH), c9 ≤ c + 300 → CI n rc sz al c9 m → MM n rc sz m pm m pm → zRep E ad al m pm h → zz X E 4 ad (64 + 4 * al) (14990 + 30 * al) 594 [some (.ref b), some (.ref (ad 0)), some (.ref (ad 40)), some (.int (nI i))] [] h := by
        intro n rc sz al c9 ad m pm h g1 g2 g3 hR
        refine zz_iinc C d_La_law_594 rfl (show nI i + Int32.ofInt 4 = nI (i + 4) from nI_add i 4) (by decide) rfl ?_
        refine zz_goto (tgt := 18) C d_La_law_597 (by decide) ?_
        exact ih (i + 4) n rc sz al c9 ad m pm (by omega) (by omega) (by omega) g2 g3 h hR
      refine zz_aload_n C d_La_law_26 rfl rfl ?_
      refine zz_iload_n C d_La_law_27 rfl rfl ?_
      refine zz_sld (j := i) C V d_La_law_28 rfl (by omega) hL ?_
      refine zz_bipush (v := 31) C d_La_law_29 (by decide) ?_
      refine zz_iand C d_La_law_31 ?_
      generalize xs i &&& 31 = v
      by_cases e0 : v = 0
      · subst e0
        refine zz_tableIn (tgt := 120) C d_La_law_32 (by decide) (by decide) (off := 88) rfl (by decide) ?_
        exact lw_name C S V hL hi4 (by omega) hC hM NX h hR
      by_cases e1 : v = 1
      · subst e1
        refine zz_tableIn (tgt := 153) C d_La_law_32 (by decide) (by decide) (off := 121) rfl (by decide) ?_
        exact lw_row C S V hL hi4 (by omega) hC hM NX h hR
      by_cases e2 : v = 2
      · subst e2
        refine zz_tableIn (tgt := 186) C d_La_law_32 (by decide) (by decide) (off := 154) rfl (by decide) ?_
        exact lw_factor C S V hL hi4 (by omega) hC hM NX h hR
      by_cases e3 : v = 3
      · subst e3
        refine zz_tableIn (tgt := 229) C d_La_law_32 (by decide) (by decide) (off := 197) rfl (by decide) ?_
        exact lw_cost C S V hL hi4 (by omega) hC hM NX h hR
      by_cases e4 : v = 4
      · subst e4
        refine zz_tableIn (tgt := 262) C d_La_law_32 (by decide) (by decide) (off := 230) rfl (by decide) ?_
        exact lw_alike C S V hL hi4 (by omega) hC hM NX h hR
      by_cases e5 : v = 5
      · subst e5
        refine zz_tableIn (tgt := 295) C d_La_law_32 (by decide) (by decide) (off := 263) rfl (by decide) ?_
        exact lw_order C S V hL hi4 (by omega) hC hM NX h hR
      by_cases e6 : v = 6
      · subst e6
        refine zz_tableIn (tgt := 308) C d_La_law_32 (by decide) (by decide) (off := 276) rfl (by decide) ?_
        exact lw_rule C S V hL hi4 (by omega) hC hM NX h hR
      by_cases e7 : v = 7
      · subst e7
        refine zz_tableIn (tgt := 341) C d_La_law_32 (by decide) (by decide) (off := 309) rfl (by decide) ?_
        exact lw_start C S V hL hi4 (by omega) hC hM NX h hR
      by_cases e8 : v = 8
      · subst e8
        refine zz_tableIn (tgt := 374) C d_La_law_32 (by decide) (by decide) (off := 342) rfl (by decide) ?_
        exact lw_offer C S V hL hi4 (by omega) hC hM NX h hR
      by_cases e9 : v = 9
      · subst e9
        refine zz_tableIn (tgt := 387) C d_La_law_32 (by decide) (by decide) (off := 355) rfl (by decide) ?_
        exact lw_run C S V hL hi4 (by omega) hC hM NX h hR
      by_cases e10 : v = 10
      · subst e10
        refine zz_tableIn (tgt := 410) C d_La_law_32 (by decide) (by decide) (off := 378) rfl (by decide) ?_
        exact lw_restart C S V hL hi4 (by omega) hC hM NX h hR
      by_cases e11 : v = 11
      · subst e11
        refine zz_tableIn (tgt := 423) C d_La_law_32 (by decide) (by decide) (off := 391) rfl (by decide) ?_
        exact lw_best C S V hL hi4 (by omega) hC hM NX h hR
      by_cases e12 : v = 12
      · subst e12
        refine zz_tableIn (tgt := 446) C d_La_law_32 (by decide) (by decide) (off := 414) rfl (by decide) ?_
        exact lw_bound C S V hL hi4 (by omega) hC hM NX h hR
      by_cases e13 : v = 13
      · subst e13
        refine zz_tableIn (tgt := 459) C d_La_law_32 (by decide) (by decide) (off := 427) rfl (by decide) ?_
        exact lw_node C S V hL hi4 (by omega) hC hM NX h hR
      by_cases e14 : v = 14
      · subst e14
        refine zz_tableIn (tgt := 492) C d_La_law_32 (by decide) (by decide) (off := 460) rfl (by decide) ?_
        exact lw_boundOf C S V hL hi4 (by omega) hC hM NX h hR
      by_cases e15 : v = 15
      · subst e15
        refine zz_tableIn (tgt := 535) C d_La_law_32 (by decide) (by decide) (off := 503) rfl (by decide) ?_
        exact lw_price C S V hL hi4 (by omega) hC hM NX h hR
      by_cases e16 : v = 16
      · subst e16
        refine zz_tableIn (tgt := 558) C d_La_law_32 (by decide) (by decide) (off := 526) rfl (by decide) ?_
        exact lw_check C S V hL hi4 (by omega) hC hM NX h hR
      by_cases e17 : v = 17
      · subst e17
        refine zz_tableIn (tgt := 571) C d_La_law_32 (by decide) (by decide) (off := 539) rfl (by decide) ?_
        exact lw_count C S V hL hi4 (by omega) hC hM NX h hR
      refine zz_tableOut (tgt := 594) C d_La_law_32 (tab17 e0 e1 e2 e3 e4 e5 e6 e7 e8 e9 e10 e11 e12 e13 e14 e15 e16 e17) (by decide) ?_
      exact NX n rc sz al c ad μ pa h (by omega) hC hM hR
end LAW
