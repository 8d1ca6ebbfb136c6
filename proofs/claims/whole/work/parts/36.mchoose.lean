/-! MODEL: lower, worth, choose, pick -/
theorem tbF_sc {μ : Nat → Nat → Int32} {lo hi : Nat → Int32} {n : Nat} : sc μ (tbF μ lo hi n) := ⟨fun k a b c => by unfold tbF; rw [va_up_ne _ _ c, va_up_ne _ _ b], fun _ _ _ => rfl⟩
/-- a call up to the scratch, its answer a value -/
theorem zz_callVs {X : zX} {E : zE} {cc : ByteArray} {nL : Nat} {own : String} {rm : Room} {ad : Nat → Nat} {kc ks pc : Nat} {L : List (Option Value)} {st : List Value} {h : zH} {al : Nat} {μ μ' : Nat → Nat → Int32} {pa pa' : Nat → Nat → Int64} {y : MethodName} {b : ByteArray} {maxL n index kb ci N e : Nat} {ret : Option FieldType} {As rest : List Value} {fs : List Value} {T : u_T} {r : Value} (C : zc X E cc nL own rm) (hR : zRep E ad al μ pa h) (hd : decode cc pc = .ok (.invokevirtual index, 3)) (hl : Cond.methodLink own index y ∈ zt) (hY : zy y b maxL ret n) (hM : sMet X.2.1 y b maxL ret (zR e) E (.ref (ad kb) :: As) ad al μ pa (some r) μ' pa') (hroom : e + 1 ≤ rm.frames ∧ 8 + (maxL + 11) + 40 * e ≤ rm.locals) (hcells : kc ≤ rm.cells ∧ ks ≤ rm.slots) (hrecv : zb E ad al kb (μ kb) (pa kb) = some (.inr (ci, fs))) (hc : zCl[ci]? = some (y.cls, T, N)) (hst : st = As.reverse ++ .ref (ad kb) :: rest) (hn : As.length = n) (hwd : (rest.map fun v => v.category).sum ≤ 8) (kk : ∀ (h' : zH) (m : Nat → Nat → Int32), sc μ' m → zRep E ad al m pa' h' → zz X E nL ad kc ks (pc + 3) L (r :: rest) h') : zz X E nL ad kc ks pc L st h :=
  zz_callV C hd hl hY (hM h hR) hroom hcells ((hR kb).trans hrecv) hc hst hn hwd fun r9 ad9 h9 q => by
    obtain ⟨rfl, rfl, m, q1, q2⟩ := q
    exact kk _ m q1 q2
def pkI : Option Nat → Int32
  | none => -1
  | some q => nI q
section MCHOOSE
variable {l : Launch} {E : zE} {ad : Nat → Nat} {al : Nat} {μ : Nat → Nat → Int32} {pa : Nat → Nat → Int64}
set_option maxRecDepth 100000 in
set_option maxHeartbeats 4000000 in
theorem lp_Mo_lower {X : zX} {h : zH} {post : Option Value → (Nat → Nat) → zH → Prop} (C : zc X E b_Mo_lower 4 "BranchTreesModel" (zR 1)) (Z : zr X E (some .int) 0 0 post) {n j : Nat} {lo hi c : Nat → Int32} (hn : n ≤ 8) (hN : μ 40 1 = nI n) (hj : j < 600) (hlo : ∀ k, k < n → μ 60 (8 * j + k) = lo k) (hhi : ∀ k, k < n → μ 61 (8 * j + k) = hi k) (hc : ∀ k, k < n → μ 45 k = c k) (hb : bdR n lo hi) (hf : fcR n c) (hR : zRep E ad al (tbF μ (fun k => μ 60 (8 * j + k)) (fun k => μ 61 (8 * j + k)) n) pa h) (hpost : post (some (.int (bl lo hi c 1 n))) ad h) :
    ∀ (d i : Nat), n - i = d → i ≤ n → zz X E 4 ad 0 0 9 [some (.ref (ad 40)), some (.int (nI j)), some (.int (bl lo hi c 1 i)), some (.int (nI i))] [] h := by
  intro d
  induction d with
  | zero =>
    intro i hk hin
    have e : i = n := by omega
    subst e
    refine zz_iload_n C d_Mo_lower_9 rfl rfl ?_
    refine zz_aload_n C d_Mo_lower_10 rfl rfl ?_
    refine zz_getV C hR (nI i) _ d_Mo_lower_11 zf_Mo_85 rfl rfl hN ?_
    refine zz_icmp_ge (tgt := 37) C d_Mo_lower_14 (by decide) (fun c_14 => ?_) (fun c_14 => ?_)
    · refine zz_iload_n C d_Mo_lower_37 rfl rfl ?_
      refine zz_iret C Z d_Mo_lower_38 ?_
      exact hpost
    · exact absurd (nI_le (Nat.le_refl _) (by omega)) c_14
  | succ d ih =>
    intro i hk hin
    have hlt : i < n := by omega
    have K := ih (i + 1) (by omega) hlt
    simp only [bl] at K
    have q1 : (tbF μ (fun k => μ 60 (8 * j + k)) (fun k => μ 61 (8 * j + k)) n) 62 i = lo i := by unfold tbF; rw [va_up_ne _ _ (by decide), va_up_self]; unfold cpn; rw [if_pos hlt]; exact hlo i hlt
    have q2 : (tbF μ (fun k => μ 60 (8 * j + k)) (fun k => μ 61 (8 * j + k)) n) 63 i = hi i := by unfold tbF; rw [va_up_self]; unfold cpn; rw [if_pos hlt]; exact hhi i hlt
    have hq : leF (c i) ((tbF μ (fun k => μ 60 (8 * j + k)) (fun k => μ 61 (8 * j + k)) n) 62 i) ((tbF μ (fun k => μ 60 (8 * j + k)) (fun k => μ 61 (8 * j + k)) n) 63 i) = 1 * c i * (if 1 * c i ≤ 0 then hi i else lo i) := by
      rw [q1, q2, leF_tm (hf i hlt).1 (hf i hlt).2 (hb i hlt).1 (hb i hlt).2.1 (hb i hlt).2.2, one_mul32]; rfl
    refine zz_iload_n C d_Mo_lower_9 rfl rfl ?_
    refine zz_aload_n C d_Mo_lower_10 rfl rfl ?_
    refine zz_getV C hR (nI n) _ d_Mo_lower_11 zf_Mo_85 rfl rfl hN ?_
    refine zz_icmp_ge (tgt := 37) C d_Mo_lower_14 (by decide) (fun c_14 => ?_) (fun c_14 => ?_)
    · exact absurd c_14 (nI_ge hlt (by omega))
    · refine zz_iload_n C d_Mo_lower_17 rfl rfl ?_
      refine zz_aload_n C d_Mo_lower_18 rfl rfl ?_
      refine zz_aload_n C d_Mo_lower_19 rfl rfl ?_
      refine zz_get C d_Mo_lower_20 zf_Mo_27 ((hR _).trans rfl) rfl ?_
      refine zz_iload_n C d_Mo_lower_23 rfl rfl ?_
      refine zz_ialdV (j := i) C hR (c i) d_Mo_lower_24 (fun _ _ => rfl) rfl (by omega) (by decide) (hc i hlt) ?_
      refine zz_iload_n C d_Mo_lower_25 rfl rfl ?_
      refine zz_callVr (e := 0) C hR d_Mo_lower_26 mk_Mo_143 zy_Mo_leastOf (m_Mo_leastOf (by omega)) ⟨by decide, by decide⟩ ⟨Nat.zero_le _, Nat.zero_le _⟩ rfl rfl rfl rfl (Nat.le_of_ble_eq_true rfl) ?_
      rw [hq]
      refine zz_iadd C d_Mo_lower_29 ?_
      refine zz_istore_n C d_Mo_lower_30 rfl (by decide) rfl ?_
      refine zz_iinc C d_Mo_lower_31 rfl (nI_inc _) (by decide) rfl ?_
      refine zz_goto (tgt := 9) C d_Mo_lower_34 (by decide) ?_
      exact K
set_option maxRecDepth 100000 in
set_option maxHeartbeats 4000000 in
theorem m_Mo_lower {n j : Nat} {lo hi c : Nat → Int32} (hn : n ≤ 8) (hN : μ 40 1 = nI n) (hj : j < 600) (hlo : ∀ k, k < n → μ 60 (8 * j + k) = lo k) (hhi : ∀ k, k < n → μ 61 (8 * j + k) = hi k) (hc : ∀ k, k < n → μ 45 k = c k) (hb : bdR n lo hi) (hf : fcR n c) : sMet l y_Mo_lower b_Mo_lower 4 (some .int) (zR 1) E [.ref (ad 40), .int (nI j)] ad al μ pa (some (.int (bl lo hi c 1 n))) μ pa := by
  intro h hR
  refine zMet.of (L := [some (.ref (ad 40)), some (.int (nI j)), none, none]) (by decide +kernel) (Nat.le_of_ble_eq_true rfl) rfl 2 rfl fun X hl C Z => ?_
  refine zz_aload_n C d_Mo_lower_0 rfl rfl ?_
  refine zz_iload_n C d_Mo_lower_1 rfl rfl ?_
  refine zz_callVv (e := 0) C hR d_Mo_lower_2 mk_Mo_154 zy_Mo_takeBounds (m_Mo_takeBounds hn hN hj) ⟨by decide, by decide⟩ ⟨Nat.zero_le _, Nat.zero_le _⟩ rfl rfl rfl rfl (Nat.le_of_ble_eq_true rfl) (fun h hR => ?_)
  refine zz_iconst (v := 0) C d_Mo_lower_5 (by decide) ?_
  refine zz_istore_n C d_Mo_lower_6 rfl (by decide) rfl ?_
  refine zz_iconst (v := 0) C d_Mo_lower_7 (by decide) ?_
  refine zz_istore_n C d_Mo_lower_8 rfl (by decide) rfl ?_
  exact lp_Mo_lower C Z hn hN hj hlo hhi hc hb hf hR ⟨rfl, rfl, _, tbF_sc, hR⟩ n 0 rfl (Nat.zero_le _)
def rl3 (x : Int32) : Prop := x = 0 ∨ x = 1 ∨ x = 2 ∨ x = 3
theorem prm_prc {a : Int64} {t : Int32} (h : 0 ≤ t.toInt) : prmF a t = prcF a t := by
  unfold prmF prcF
  by_cases c : t = 0
  · subst c; rfl
  · have : ¬ t ≤ 0 := by
      rw [Int32.le_iff_toInt_le, i0]
      intro q
      exact c (Int32.toInt_inj.mp (by rw [i0]; omega))
    rw [if_pos c, if_neg this]
set_option maxRecDepth 100000 in
set_option maxHeartbeats 4000000 in
theorem m_Mo_worth {j k : Nat} {rl lo hi t cc : Int32} {p : Int64} (hj : j < 600) (hk : k < 8) (hrl : μ 51 1 = rl) (hr3 : rl3 rl) (hlo : μ 60 (8 * j + k) = lo) (hhi : μ 61 (8 * j + k) = hi) (ht : μ 44 k = t) (hp : pa 43 k = p) (hc : μ 45 k = cc) (ht0 : 0 ≤ t.toInt) : rMet l y_Mo_worth b_Mo_worth 4 (some .int) (zR 1) E [.ref (ad 40), .int (nI j), .int (nI k)] ad al μ pa (.int (meF rl lo hi 0 t p cc)) := by
  intro h hR
  refine zMet.of (L := [some (.ref (ad 40)), some (.int (nI j)), some (.int (nI k)), none]) (by decide +kernel) (Nat.le_of_ble_eq_true rfl) rfl 1 rfl fun X hl C Z => ?_
  refine zz_aload_n C d_Mo_worth_0 rfl rfl ?_
  refine zz_get C d_Mo_worth_1 zf_Mo_27 ((hR _).trans rfl) rfl ?_
  refine zz_iload_n C d_Mo_worth_4 rfl rfl ?_
  refine zz_ialdV (j := k) C hR (cc) d_Mo_worth_5 (fun _ _ => rfl) rfl hk (by decide) hc ?_
  refine zz_istore_n C d_Mo_worth_6 rfl (by decide) rfl ?_
  refine zz_aload_n C d_Mo_worth_7 rfl rfl ?_
  refine zz_get C d_Mo_worth_8 zf_Mo_46 ((hR _).trans rfl) rfl ?_
  refine zz_iconst (v := 1) C d_Mo_worth_11 (by decide) ?_
  refine zz_ialdV (j := 1) C hR (rl) d_Mo_worth_12 (fun _ _ => rfl) rfl (by decide) (by decide) hrl ?_
  refine zz_if_ne (tgt := 20) C d_Mo_worth_13 (by decide) (fun c_13 => ?_) (fun c_13 => ?_)
  · refine zz_aload_n C d_Mo_worth_20 rfl rfl ?_
    refine zz_get C d_Mo_worth_21 zf_Mo_46 ((hR _).trans rfl) rfl ?_
    refine zz_iconst (v := 1) C d_Mo_worth_24 (by decide) ?_
    refine zz_ialdV (j := 1) C hR (rl) d_Mo_worth_25 (fun _ _ => rfl) rfl (by decide) (by decide) hrl ?_
    refine zz_iconst (v := 1) C d_Mo_worth_26 (by decide) ?_
    refine zz_icmp_ne (tgt := 56) C d_Mo_worth_27 (by decide) (fun c_27 => ?_) (fun c_27 => ?_)
    · refine zz_aload_n C d_Mo_worth_56 rfl rfl ?_
      refine zz_get C d_Mo_worth_57 zf_Mo_46 ((hR _).trans rfl) rfl ?_
      refine zz_iconst (v := 1) C d_Mo_worth_60 (by decide) ?_
      refine zz_ialdV (j := 1) C hR (rl) d_Mo_worth_61 (fun _ _ => rfl) rfl (by decide) (by decide) hrl ?_
      refine zz_iconst (v := 2) C d_Mo_worth_62 (by decide) ?_
      refine zz_icmp_ne (tgt := 74) C d_Mo_worth_63 (by decide) (fun c_63 => ?_) (fun c_63 => ?_)
      · refine zz_iload_n C d_Mo_worth_74 rfl rfl ?_
        refine zz_if_ge (tgt := 83) C d_Mo_worth_75 (by decide) (fun c_75 => ?_) (fun c_75 => ?_)
        · have hab : absF cc = cc := if_pos c_75
          refine zz_iload_n C d_Mo_worth_83 rfl rfl ?_
          refine zz_iret C Z d_Mo_worth_84 ?_
          refine ⟨?_, rfl, rfl⟩
          first | (simp [meF, c_13, c_27, c_63, c_75]; done) | (rcases hr3 with q | q | q | q <;> simp_all [meF]; done)
        · have hab : absF cc = -cc := if_neg c_75
          refine zz_iload_n C d_Mo_worth_78 rfl rfl ?_
          refine zz_ineg C d_Mo_worth_79 ?_
          refine zz_goto (tgt := 84) C d_Mo_worth_80 (by decide) ?_
          refine zz_iret C Z d_Mo_worth_84 ?_
          refine ⟨?_, rfl, rfl⟩
          first | (simp [meF, c_13, c_27, c_63, c_75]; done) | (rcases hr3 with q | q | q | q <;> simp_all [meF]; done)
      · refine zz_aload_n C d_Mo_worth_66 rfl rfl ?_
        refine zz_iload_n C d_Mo_worth_67 rfl rfl ?_
        refine zz_callVr (e := 0) C hR d_Mo_worth_68 mk_Mo_172 zy_Mo_priceOf (m_Mo_priceOf hk) ⟨by decide, by decide⟩ ⟨Nat.zero_le _, Nat.zero_le _⟩ rfl rfl rfl rfl (Nat.le_of_ble_eq_true rfl) ?_
        rw [ht, hp, prm_prc ht0]
        refine zz_goto (tgt := 84) C d_Mo_worth_71 (by decide) ?_
        refine zz_iret C Z d_Mo_worth_84 ?_
        refine ⟨?_, rfl, rfl⟩
        first | (simp [meF, c_13, c_27, c_63]; done) | (rcases hr3 with q | q | q | q <;> simp_all [meF]; done)
    · refine zz_aload_n C d_Mo_worth_30 rfl rfl ?_
      refine zz_get C d_Mo_worth_31 zf_Mo_73 ((hR _).trans rfl) rfl ?_
      refine zz_bipush (v := 8) C d_Mo_worth_34 (by decide) ?_
      refine zz_iload_n C d_Mo_worth_36 rfl rfl ?_
      refine zz_imul C d_Mo_worth_37 ?_
      refine zz_iload_n C d_Mo_worth_38 rfl rfl ?_
      refine zz_iadd C d_Mo_worth_39 ?_
      refine zz_ialdV (j := 8 * j + k) C hR (lo) d_Mo_worth_40 (fun _ _ => rfl) (ix8 j k) (by omega) (by decide) hlo ?_
      refine zz_aload_n C d_Mo_worth_41 rfl rfl ?_
      refine zz_get C d_Mo_worth_42 zf_Mo_76 ((hR _).trans rfl) rfl ?_
      refine zz_bipush (v := 8) C d_Mo_worth_45 (by decide) ?_
      refine zz_iload_n C d_Mo_worth_47 rfl rfl ?_
      refine zz_imul C d_Mo_worth_48 ?_
      refine zz_iload_n C d_Mo_worth_49 rfl rfl ?_
      refine zz_iadd C d_Mo_worth_50 ?_
      refine zz_ialdV (j := 8 * j + k) C hR (hi) d_Mo_worth_51 (fun _ _ => rfl) (ix8 j k) (by omega) (by decide) hhi ?_
      refine zz_isub C d_Mo_worth_52 ?_
      refine zz_goto (tgt := 84) C d_Mo_worth_53 (by decide) ?_
      refine zz_iret C Z d_Mo_worth_84 ?_
      refine ⟨?_, rfl, rfl⟩
      first | (simp [meF, c_13, c_27]; done) | (rcases hr3 with q | q | q | q <;> simp_all [meF]; done)
  · refine zz_iconst (v := 0) C d_Mo_worth_16 (by decide) ?_
    refine zz_goto (tgt := 84) C d_Mo_worth_17 (by decide) ?_
    refine zz_iret C Z d_Mo_worth_84 ?_
    refine ⟨?_, rfl, rfl⟩
    first | (simp [meF, c_13]; done) | (rcases hr3 with q | q | q | q <;> simp_all [meF]; done)
/-- the model's best NAME so far, beside the class's -/
def chR (lo hi mer : Nat → Int32) (i : Nat) (b : Int32) : Prop := ((coF lo hi mer i).1 = -2 ∧ b = -1) ∨ ∃ q : Nat, q < i ∧ (coF lo hi mer i).1 = nI q ∧ b = nI q ∧ (coF lo hi mer i).2 = mer q
set_option maxRecDepth 100000 in
set_option maxHeartbeats 4000000 in
theorem lp_Mo_choose {X : zX} {h : zH} {post : Option Value → (Nat → Nat) → zH → Prop} (C : zc X E b_Mo_choose 4 "BranchTreesModel" (zR 2)) (Z : zr X E (some .int) 0 0 post) {n j : Nat} {lo hi : Nat → Int32} {mer : Nat → Int32} (hn : n ≤ 8) (hN : μ 40 1 = nI n) (hj : j < 600) (hlo : ∀ k, k < n → μ 60 (8 * j + k) = lo k) (hhi : ∀ k, k < n → μ 61 (8 * j + k) = hi k) (hw : ∀ k, k < n → rMet X.2.1 y_Mo_worth b_Mo_worth 4 (some .int) (zR 1) E [.ref (ad 40), .int (nI j), .int (nI k)] ad al μ pa (.int (mer k))) (hR : zRep E ad al μ pa h) (hpost : ∀ b, chR lo hi mer n b → post (some (.int b)) ad h) :
    ∀ (d i : Nat) (b : Int32), n - i = d → i ≤ n → chR lo hi mer i b → zz X E 4 ad 0 0 4 [some (.ref (ad 40)), some (.int (nI j)), some (.int b), some (.int (nI i))] [] h := by
  intro d
  induction d with
  | zero =>
    intro i b hk hin hch
    have e : i = n := by omega
    subst e
    refine zz_iload_n C d_Mo_choose_4 rfl rfl ?_
    refine zz_aload_n C d_Mo_choose_5 rfl rfl ?_
    refine zz_getV C hR (nI i) _ d_Mo_choose_6 zf_Mo_85 rfl rfl hN ?_
    refine zz_icmp_ge (tgt := 68) C d_Mo_choose_9 (by decide) (fun c_9 => ?_) (fun c_9 => ?_)
    · refine zz_iload_n C d_Mo_choose_68 rfl rfl ?_
      refine zz_iret C Z d_Mo_choose_69 ?_
      exact hpost b hch
    · exact absurd (nI_le (Nat.le_refl _) (by omega)) c_9
  | succ d ih =>
    intro i b hk hin hch
    have hlt : i < n := by omega
    refine zz_iload_n C d_Mo_choose_4 rfl rfl ?_
    refine zz_aload_n C d_Mo_choose_5 rfl rfl ?_
    refine zz_getV C hR (nI n) _ d_Mo_choose_6 zf_Mo_85 rfl rfl hN ?_
    refine zz_icmp_ge (tgt := 68) C d_Mo_choose_9 (by decide) (fun c_9 => ?_) (fun c_9 => ?_)
    · exact absurd c_9 (nI_ge hlt (by omega))
    · refine zz_aload_n C d_Mo_choose_12 rfl rfl ?_
      refine zz_get C d_Mo_choose_13 zf_Mo_73 ((hR _).trans rfl) rfl ?_
      refine zz_bipush (v := 8) C d_Mo_choose_16 (by decide) ?_
      refine zz_iload_n C d_Mo_choose_18 rfl rfl ?_
      refine zz_imul C d_Mo_choose_19 ?_
      refine zz_iload_n C d_Mo_choose_20 rfl rfl ?_
      refine zz_iadd C d_Mo_choose_21 ?_
      refine zz_ialdV (j := 8 * j + i) C hR (lo i) d_Mo_choose_22 (fun _ _ => rfl) (ix8 j i) (by omega) (by decide) (hlo i hlt) ?_
      refine zz_aload_n C d_Mo_choose_23 rfl rfl ?_
      refine zz_get C d_Mo_choose_24 zf_Mo_76 ((hR _).trans rfl) rfl ?_
      refine zz_bipush (v := 8) C d_Mo_choose_27 (by decide) ?_
      refine zz_iload_n C d_Mo_choose_29 rfl rfl ?_
      refine zz_imul C d_Mo_choose_30 ?_
      refine zz_iload_n C d_Mo_choose_31 rfl rfl ?_
      refine zz_iadd C d_Mo_choose_32 ?_
      refine zz_ialdV (j := 8 * j + i) C hR (hi i) d_Mo_choose_33 (fun _ _ => rfl) (ix8 j i) (by omega) (by decide) (hhi i hlt) ?_
      refine zz_icmp_ge (tgt := 62) C d_Mo_choose_34 (by decide) (fun c_34 => ?_) (fun c_34 => ?_)
      · refine zz_iinc C d_Mo_choose_62 rfl (nI_inc _) (by decide) rfl ?_
        refine zz_goto (tgt := 4) C d_Mo_choose_65 (by decide) ?_
        refine ih (i + 1) _ (by omega) hlt ?_
        rcases hch with ⟨h1, h2⟩ | ⟨q, hq, h1, h2, h3⟩
        · exact Or.inl ⟨by simp only [coF, c_34, if_true]; exact h1, h2⟩
        · exact Or.inr ⟨q, by omega, by simp only [coF, c_34, if_true]; exact h1, h2, by simp only [coF, c_34, if_true]; exact h3⟩
      · rcases hch with ⟨h1, rfl⟩ | ⟨q, hq, h1, rfl, h2⟩
        · refine zz_iload_n C d_Mo_choose_37 rfl rfl ?_
          refine zz_if_lt (tgt := 56) C d_Mo_choose_38 (by decide) (fun c_38 => ?_) (fun c_38 => ?_)
          · refine zz_iload_n C d_Mo_choose_56 rfl rfl ?_
            refine zz_goto (tgt := 61) C d_Mo_choose_57 (by decide) ?_
            refine zz_istore_n C d_Mo_choose_61 rfl (by decide) rfl ?_
            refine zz_iinc C d_Mo_choose_62 rfl (nI_inc _) (by decide) rfl ?_
            refine zz_goto (tgt := 4) C d_Mo_choose_65 (by decide) ?_
            refine ih (i + 1) _ (by omega) hlt (Or.inr ⟨i, by omega, ?_, rfl, ?_⟩)
            · simp only [coF, c_34, h1, if_true, if_false]
            · simp only [coF, c_34, h1, if_true, if_false]
          · exact absurd (by decide) c_38
        · refine zz_iload_n C d_Mo_choose_37 rfl rfl ?_
          refine zz_if_lt (tgt := 56) C d_Mo_choose_38 (by decide) (fun c_38 => ?_) (fun c_38 => ?_)
          · exact absurd c_38 (nI_pos (by omega))
          · refine zz_aload_n C d_Mo_choose_41 rfl rfl ?_
            refine zz_iload_n C d_Mo_choose_42 rfl rfl ?_
            refine zz_iload_n C d_Mo_choose_43 rfl rfl ?_
            refine zz_callVr (e := 1) C hR d_Mo_choose_44 mk_Mo_175 zy_Mo_worth (hw i hlt) ⟨by decide, by decide⟩ ⟨Nat.zero_le _, Nat.zero_le _⟩ rfl rfl rfl rfl (Nat.le_of_ble_eq_true rfl) ?_
            refine zz_aload_n C d_Mo_choose_47 rfl rfl ?_
            refine zz_iload_n C d_Mo_choose_48 rfl rfl ?_
            refine zz_iload_n C d_Mo_choose_49 rfl rfl ?_
            refine zz_callVr (e := 1) C hR d_Mo_choose_50 mk_Mo_175 zy_Mo_worth (hw q (by omega)) ⟨by decide, by decide⟩ ⟨Nat.zero_le _, Nat.zero_le _⟩ rfl rfl rfl rfl (Nat.le_of_ble_eq_true rfl) ?_
            refine zz_icmp_le (tgt := 60) C d_Mo_choose_53 (by decide) (fun c_53 => ?_) (fun c_53 => ?_)
            · have c3 : mer i ≤ (coF lo hi mer i).2 := by rw [h2]; exact c_53
              refine zz_iload_n C d_Mo_choose_60 rfl rfl ?_
              refine zz_istore_n C d_Mo_choose_61 rfl (by decide) rfl ?_
              refine zz_iinc C d_Mo_choose_62 rfl (nI_inc _) (by decide) rfl ?_
              refine zz_goto (tgt := 4) C d_Mo_choose_65 (by decide) ?_
              have hne : ¬ (coF lo hi mer i).1 = -2 := by rw [h1]; exact ne_m2 (by omega)
              first
              | exact ih (i + 1) _ (by omega) hlt (Or.inr ⟨q, by omega, by simp only [coF, c_34, hne, c3, if_true, if_false]; exact h1, rfl, by simp only [coF, c_34, hne, c3, if_true, if_false]; exact h2⟩)
              | exact ih (i + 1) _ (by omega) hlt (Or.inr ⟨i, by omega, by simp only [coF, c_34, hne, c3, if_false], rfl, by simp only [coF, c_34, hne, c3, if_false]⟩)
            · have c3 : ¬ mer i ≤ (coF lo hi mer i).2 := by rw [h2]; exact c_53
              refine zz_iload_n C d_Mo_choose_56 rfl rfl ?_
              refine zz_goto (tgt := 61) C d_Mo_choose_57 (by decide) ?_
              refine zz_istore_n C d_Mo_choose_61 rfl (by decide) rfl ?_
              refine zz_iinc C d_Mo_choose_62 rfl (nI_inc _) (by decide) rfl ?_
              refine zz_goto (tgt := 4) C d_Mo_choose_65 (by decide) ?_
              have hne : ¬ (coF lo hi mer i).1 = -2 := by rw [h1]; exact ne_m2 (by omega)
              first
              | exact ih (i + 1) _ (by omega) hlt (Or.inr ⟨q, by omega, by simp only [coF, c_34, hne, c3, if_true, if_false]; exact h1, rfl, by simp only [coF, c_34, hne, c3, if_true, if_false]; exact h2⟩)
              | exact ih (i + 1) _ (by omega) hlt (Or.inr ⟨i, by omega, by simp only [coF, c_34, hne, c3, if_false], rfl, by simp only [coF, c_34, hne, c3, if_false]⟩)
/-- as a contract: the answer is some b beside the class's choice -/
def eMet (l : Launch) (y : MethodName) (b : ByteArray) (nL : Nat) (ret : Option FieldType) (rm : Room) (E : zE) (av : List Value) (ad : Nat → Nat) (al : Nat) (μ : Nat → Nat → Int32) (pa : Nat → Nat → Int64) (P : Int32 → Prop) : Prop :=
  ∀ h : zH, zRep E ad al μ pa h → zMet l y b nL ret rm E av ad h (fun r' ad' h' => ∃ x, r' = some (.int x) ∧ P x ∧ ad' = ad ∧ h' = h)
set_option maxRecDepth 100000 in
set_option maxHeartbeats 4000000 in
theorem m_Mo_choose {n j : Nat} {lo hi : Nat → Int32} {mer : Nat → Int32} (hn : n ≤ 8) (hN : μ 40 1 = nI n) (hj : j < 600) (hlo : ∀ k, k < n → μ 60 (8 * j + k) = lo k) (hhi : ∀ k, k < n → μ 61 (8 * j + k) = hi k) (hw : ∀ k, k < n → rMet l y_Mo_worth b_Mo_worth 4 (some .int) (zR 1) E [.ref (ad 40), .int (nI j), .int (nI k)] ad al μ pa (.int (mer k))) : eMet l y_Mo_choose b_Mo_choose 4 (some .int) (zR 2) E [.ref (ad 40), .int (nI j)] ad al μ pa (chR lo hi mer n) := by
  intro h hR
  refine zMet.of (L := [some (.ref (ad 40)), some (.int (nI j)), none, none]) (by decide +kernel) (Nat.le_of_ble_eq_true rfl) rfl 2 rfl fun X hl C Z => ?_
  refine zz_iconst (v := -1) C d_Mo_choose_0 (by decide) ?_
  refine zz_istore_n C d_Mo_choose_1 rfl (by decide) rfl ?_
  refine zz_iconst (v := 0) C d_Mo_choose_2 (by decide) ?_
  refine zz_istore_n C d_Mo_choose_3 rfl (by decide) rfl ?_
  subst hl
  exact lp_Mo_choose C Z hn hN hj hlo hhi hw hR (fun b hb => ⟨b, rfl, hb, rfl, rfl⟩) n 0 _ rfl (Nat.zero_le _) (Or.inl ⟨rfl, rfl⟩)
end MCHOOSE
