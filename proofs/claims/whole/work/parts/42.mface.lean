/-! MODEL: restart, best, rule, count, node -/
def reM (μ : Nat → Nat → Int32) : Nat → Nat → Int32 := va_up (va_up (th μ) 40 (upd (th μ 40) 17 0)) 40 (upd (va_up (th μ) 40 (upd (th μ 40) 17 0) 40) 18 0)
def liM (x : Int32) : Int32 := if ¬ x = 0 then (if ¬ x = 1 then 1 else 3) else 2
def ruM (μ : Nat → Nat → Int32) (pa : Nat → Nat → Int64) (x v : Int32) : zO := if inF x 0 2 = 0 then (-1, th μ, pa) else if ¬ inF v 0 (liM x) = 0 then (μ 51 x.toNatClampNeg, va_up (th μ) 51 (upd (μ 51) x.toNatClampNeg v), pa) else (-1, th μ, pa)
theorem inM1 {x : Int32} {n : Nat} (hn : n ≤ 8) : inF x (-1) (nI n - 1) = if x = -1 then 1 else hasN x (nI n) := by
  have e1 : (nI n).toInt = n := nI_toInt (by omega)
  have e2 : (1 : Int32).toInt = 1 := by decide
  have e3 : (-1 : Int32).toInt = -1 := by decide
  have e4 : (nI n - 1).toInt = n - 1 := by rw [tI_sub (by omega) (by omega), e1, e2]
  by_cases c : x = -1
  · subst c
    rw [if_pos rfl]
    unfold inF
    rw [if_neg (by rw [Int32.lt_iff_toInt_lt]; omega), if_neg (by rw [Int32.lt_iff_toInt_lt]; omega)]
  · rw [if_neg c]
    have c' : ¬ x.toInt = -1 := fun q => c (Int32.toInt_inj.mp (by rw [q, e3]))
    unfold inF hasN
    by_cases d : x < -1
    · rw [if_pos d, if_pos]
      rw [Int32.lt_iff_toInt_lt] at d ⊢
      rw [i0]; omega
    · rw [if_neg d]
      rw [Int32.lt_iff_toInt_lt] at d
      rw [if_neg (show ¬ x < 0 by rw [Int32.lt_iff_toInt_lt, i0]; omega)]
      by_cases q : nI n - 1 < x
      · rw [if_pos q, if_pos]
        rw [Int32.lt_iff_toInt_lt] at q; rw [Int32.le_iff_toInt_le]; omega
      · rw [if_neg q, if_neg]
        rw [Int32.lt_iff_toInt_lt] at q; rw [Int32.le_iff_toInt_le]; omega
theorem oc_congr {f g : Nat → Int32} : ∀ r, (∀ q, q < r → f q = g q) → ocF f r = ocF g r
  | 0, _ => rfl
  | r + 1, h => by
    show (if f r = 0 then ocF f r else ocF f r + 1) = if g r = 0 then ocF g r else ocF g r + 1
    rw [h r (by omega), oc_congr r (fun q hq => h q (by omega))]
theorem isM_cn {n sz : Nat} {V μ : Nat → Nat → Int32} {s : Int32} (h : mT n sz V μ) : ∀ i, i ≤ sz → isM μ s i = cnF V s i
  | 0, _ => rfl
  | i + 1, hi => by
    show (if ¬ μ 57 i = s then isM μ s i else isM μ s i + 1) = if ¬ V (100 + 4 * i) 7 = s then cnF V s i else cnF V s i + Int32.ofInt 1
    rw [(h.2 i (by omega)).2.2.2.2.1, isM_cn h i (by omega)]; rfl
section MFACE2
variable {l : Launch} {E : zE} {ad : Nat → Nat} {al c n rc sz : Nat} {V μ : Nat → Nat → Int32} {pv pa : Nat → Nat → Int64}
set_option maxRecDepth 100000 in
set_option maxHeartbeats 4000000 in
theorem m_Mo_restart : wMet l y_Mo_restart b_Mo_restart 2 (some .int) (zR 0) E [.ref (ad 40)] ad al μ pa (some (.int (μ 40 17))) (reM μ) pa := by
  intro h hR
  refine zMet.of (L := [some (.ref (ad 40)), none]) (by decide +kernel) (Nat.le_of_ble_eq_true rfl) rfl 1 rfl fun X hl C Z => ?_
  refine zz_aload_n C d_Mo_restart_0 rfl rfl ?_
  refine zz_iconst (v := 0) C d_Mo_restart_1 (by decide) ?_
  refine zz_putI C hR d_Mo_restart_2 zp_Mo_1 rfl rfl rfl (Nat.le_of_ble_eq_true rfl) rfl (fun h hR => ?_)
  have hR : zRep E ad al (th μ) pa h := hR
  refine zz_aload_n C d_Mo_restart_5 rfl rfl ?_
  refine zz_get C d_Mo_restart_6 zf_Mo_92 ((hR _).trans rfl) rfl ?_
  refine zz_istore_n C d_Mo_restart_9 rfl (by decide) rfl ?_
  refine zz_aload_n C d_Mo_restart_10 rfl rfl ?_
  refine zz_iconst (v := 0) C d_Mo_restart_11 (by decide) ?_
  refine zz_putI C hR d_Mo_restart_12 zp_Mo_92 rfl rfl rfl (Nat.le_of_ble_eq_true rfl) rfl (fun h hR => ?_)
  refine zz_aload_n C d_Mo_restart_15 rfl rfl ?_
  refine zz_iconst (v := 0) C d_Mo_restart_16 (by decide) ?_
  refine zz_putI C hR d_Mo_restart_17 zp_Mo_95 rfl rfl rfl (Nat.le_of_ble_eq_true rfl) rfl (fun h hR => ?_)
  refine zz_iload_n C d_Mo_restart_20 rfl rfl ?_
  refine zz_iret C Z d_Mo_restart_21 ?_
  exact ⟨rfl, rfl, hR⟩
set_option maxRecDepth 100000 in
set_option maxHeartbeats 4000000 in
theorem m_Mo_best {x : Int32} (hC : CI n rc sz al c V) (hM : MM n rc sz V pv μ pa) : sMet l y_Mo_best b_Mo_best 2 (some .int) (zR 1) E [.ref (ad 40), .int x] ad al μ pa (some (.int (beF V x))) μ pa := by
  intro h hR
  refine zMet.of (L := [some (.ref (ad 40)), some (.int x)]) (by decide +kernel) (Nat.le_of_ble_eq_true rfl) rfl 0 rfl fun X hl C Z => ?_
  have h8 := hC.n8
  have hN := hM.N
  have hN' := hC.N
  refine zz_aload_n C d_Mo_best_0 rfl rfl ?_
  refine zz_iconst (v := 0) C d_Mo_best_1 (by decide) ?_
  refine zz_putI C hR d_Mo_best_2 zp_Mo_1 rfl rfl rfl (Nat.le_of_ble_eq_true rfl) rfl (fun h hR => ?_)
  have hR : zRep E ad al (th μ) pa h := hR
  refine zz_aload_n C d_Mo_best_5 rfl rfl ?_
  refine zz_getV C hR (V 9 1) _ d_Mo_best_6 zf_Mo_98 rfl rfl hM.2.1.1 ?_
  refine zz_if_eq (tgt := 30) C d_Mo_best_9 (by decide) (fun c_9 => ?_) (fun c_9 => ?_)
  · refine zz_ldc C _ d_Mo_best_30 co_Mo_195 ?_
    refine zz_iret C Z d_Mo_best_32 ?_
    exact ⟨by unfold beF; rw [hN']; first | (simp_all; done) | (by_cases q : x = -1 <;> simp_all), rfl, _, th_sc, hR⟩
  · refine zz_iload_n C d_Mo_best_12 rfl rfl ?_
    refine zz_i2l C d_Mo_best_13 ?_
    refine zz_ldc2 C _ d_Mo_best_14 co_Mo_193 ?_
    refine zz_aload_n C d_Mo_best_17 rfl rfl ?_
    refine zz_getV C hR (nI n) _ d_Mo_best_18 zf_Mo_85 rfl rfl hN ?_
    refine zz_iconst (v := 1) C d_Mo_best_21 (by decide) ?_
    refine zz_isub C d_Mo_best_22 ?_
    refine zz_i2l C d_Mo_best_23 ?_
    refine zz_callSr (e := 0) C hR d_Mo_best_24 mk_Mo_88 zy_Mo_in (m_Mo_in (x := x) (y := -1) (z := nI n - 1) rfl (by decide) rfl) ⟨by decide, by decide⟩ ⟨Nat.zero_le _, Nat.zero_le _⟩ rfl rfl (Nat.le_of_ble_eq_true rfl) ?_
    rw [inM1 h8]
    refine zz_if_ne (tgt := 33) C d_Mo_best_27 (by decide) (fun c_27 => ?_) (fun c_27 => ?_)
    by_cases cx : x = -1
    · subst cx
      refine zz_iload_n C d_Mo_best_33 rfl rfl ?_
      refine zz_if_ge (tgt := 44) C d_Mo_best_34 (by decide) (fun c_34 => ?_) (fun c_34 => ?_)
      · exact absurd c_34 (by decide)
      · refine zz_aload_n C d_Mo_best_37 rfl rfl ?_
        refine zz_getV C hR (V 9 2) _ d_Mo_best_38 zf_Mo_136 rfl rfl hM.2.1.2 ?_
        refine zz_goto (tgt := 50) C d_Mo_best_41 (by decide) ?_
        refine zz_iret C Z d_Mo_best_50 ?_
        exact ⟨by unfold beF; simp_all, rfl, _, th_sc, hR⟩
    rw [if_neg cx] at c_27
    obtain ⟨a, ha, hx⟩ := hasN_ok c_27 (show n < 2 ^ 31 by omega)
    subst hx
    have ea : (nI a).toNatClampNeg = a := nI_clamp (by omega)
    have hv : th μ 52 a = V 10 a := hM.2.2.2.2.2.2 c_9 a ha
    refine zz_iload_n C d_Mo_best_33 rfl rfl ?_
    refine zz_if_ge (tgt := 44) C d_Mo_best_34 (by decide) (fun c_34 => ?_) (fun c_34 => ?_)
    · refine zz_aload_n C d_Mo_best_44 rfl rfl ?_
      refine zz_get C d_Mo_best_45 zf_Mo_49 ((hR _).trans rfl) rfl ?_
      refine zz_iload_n C d_Mo_best_48 rfl rfl ?_
      refine zz_ialdV (j := a) C hR (V 10 a) d_Mo_best_49 (fun _ _ => rfl) rfl (by omega) (by decide) hv ?_
      refine zz_iret C Z d_Mo_best_50 ?_
      exact ⟨by unfold beF; rw [hN', ea]; simp_all, rfl, _, th_sc, hR⟩
    · exact absurd (nI_pos' (by omega)) c_34
    · refine zz_ldc C _ d_Mo_best_30 co_Mo_195 ?_
      refine zz_iret C Z d_Mo_best_32 ?_
      exact ⟨by unfold beF; rw [hN']; first | (simp_all; done) | (by_cases q : x = -1 <;> simp_all), rfl, _, th_sc, hR⟩
set_option maxRecDepth 100000 in
set_option maxHeartbeats 4000000 in
theorem m_Mo_rule {x v : Int32} : wMet l y_Mo_rule b_Mo_rule 4 (some .int) (zR 1) E [.ref (ad 40), .int x, .int v] ad al μ pa (some (.int (ruM μ pa x v).1)) (ruM μ pa x v).2.1 (ruM μ pa x v).2.2 := by
  intro h hR
  refine zMet.of (L := [some (.ref (ad 40)), some (.int x), some (.int v), none]) (by decide +kernel) (Nat.le_of_ble_eq_true rfl) rfl 1 rfl fun X hl C Z => ?_
  refine zz_aload_n C d_Mo_rule_0 rfl rfl ?_
  refine zz_iconst (v := 0) C d_Mo_rule_1 (by decide) ?_
  refine zz_putI C hR d_Mo_rule_2 zp_Mo_1 rfl rfl rfl (Nat.le_of_ble_eq_true rfl) rfl (fun h hR => ?_)
  have hR : zRep E ad al (th μ) pa h := hR
  refine zz_iload_n C d_Mo_rule_5 rfl rfl ?_
  refine zz_i2l C d_Mo_rule_6 ?_
  refine zz_lconst (v := 0) C d_Mo_rule_7 (by decide) ?_
  refine zz_ldc2 C _ d_Mo_rule_8 co_Mo_109 ?_
  refine zz_callSr (e := 0) C hR d_Mo_rule_11 mk_Mo_88 zy_Mo_in (m_Mo_in (x := x) (y := 0) (z := 2) rfl (by decide) (by decide)) ⟨by decide, by decide⟩ ⟨Nat.zero_le _, Nat.zero_le _⟩ rfl rfl (Nat.le_of_ble_eq_true rfl) ?_
  refine zz_if_eq (tgt := 48) C d_Mo_rule_14 (by decide) (fun c_14 => ?_) (fun c_14 => ?_)
  · refine zz_iconst (v := -1) C d_Mo_rule_48 (by decide) ?_
    refine zz_iret C Z d_Mo_rule_49 ?_
    refine ⟨?_, rfl, ?_⟩
    · simp only [ruM, c_14, if_true, if_false, not_true_eq_false, not_false_eq_true]
    · simp only [ruM, c_14, if_true, if_false, not_true_eq_false, not_false_eq_true]
      exact hR
  · refine zz_iload_n C d_Mo_rule_17 rfl rfl ?_
    refine zz_i2l C d_Mo_rule_18 ?_
    refine zz_lconst (v := 0) C d_Mo_rule_19 (by decide) ?_
    have x02 := is02 (fun q => c_14 (in02.mpr (Or.inl q))) (fun q => c_14 (in02.mpr (Or.inr q)))
    obtain ⟨q, hq, hx⟩ : ∃ q : Nat, q < 3 ∧ x = nI q := by
      rcases x02 with h | h | h
      · exact ⟨0, by decide, h⟩
      · exact ⟨1, by decide, h⟩
      · exact ⟨2, by decide, h⟩
    subst hx
    have eq : (nI q).toNatClampNeg = q := nI_clamp (by omega)
    refine zz_iload_n C d_Mo_rule_20 rfl rfl ?_
    refine zz_if_ne (tgt := 30) C d_Mo_rule_21 (by decide) (fun c_21 => ?_) (fun c_21 => ?_)
    · refine zz_iload_n C d_Mo_rule_30 rfl rfl ?_
      refine zz_iconst (v := 1) C d_Mo_rule_31 (by decide) ?_
      refine zz_icmp_ne (tgt := 41) C d_Mo_rule_32 (by decide) (fun c_32 => ?_) (fun c_32 => ?_)
      · refine zz_lconst (v := 1) C d_Mo_rule_41 (by decide) ?_
        have hlim : liM (nI q) = 1 := by simp only [liM, c_21, c_32, if_true, if_false, not_true_eq_false, not_false_eq_true]
        refine zz_callSr (e := 0) C hR d_Mo_rule_42 mk_Mo_88 zy_Mo_in (m_Mo_in (x := v) (y := 0) (z := 1) rfl (by decide) (by decide)) ⟨by decide, by decide⟩ ⟨Nat.zero_le _, Nat.zero_le _⟩ rfl rfl (Nat.le_of_ble_eq_true rfl) ?_
        rw [← hlim]
        refine zz_if_ne (tgt := 50) C d_Mo_rule_45 (by decide) (fun c_45 => ?_) (fun c_45 => ?_)
        refine zz_aload_n C d_Mo_rule_50 rfl rfl ?_
        refine zz_get C d_Mo_rule_51 zf_Mo_46 ((hR _).trans rfl) rfl ?_
        refine zz_iload_n C d_Mo_rule_54 rfl rfl ?_
        refine zz_ialdR (j := q) C hR d_Mo_rule_55 (fun _ _ => rfl) rfl (by omega) (by decide) ?_
        refine zz_istore_n C d_Mo_rule_56 rfl (by decide) rfl ?_
        refine zz_aload_n C d_Mo_rule_57 rfl rfl ?_
        refine zz_get C d_Mo_rule_58 zf_Mo_46 ((hR _).trans rfl) rfl ?_
        refine zz_iload_n C d_Mo_rule_61 rfl rfl ?_
        refine zz_iload_n C d_Mo_rule_62 rfl rfl ?_
        refine zz_iastR (j := q) C hR d_Mo_rule_63 (fun _ _ => rfl) rfl (by omega) (by decide) (fun h hR => ?_)
        refine zz_iload_n C d_Mo_rule_64 rfl rfl ?_
        refine zz_iret C Z d_Mo_rule_65 ?_
        refine ⟨?_, rfl, ?_⟩
        · simp only [ruM, c_14, c_45, eq, if_true, if_false, not_true_eq_false, not_false_eq_true]
          try rfl
        · simp only [ruM, c_14, c_45, eq, if_true, if_false, not_true_eq_false, not_false_eq_true]
          exact hR
        · refine zz_iconst (v := -1) C d_Mo_rule_48 (by decide) ?_
          refine zz_iret C Z d_Mo_rule_49 ?_
          refine ⟨?_, rfl, ?_⟩
          · simp only [ruM, c_14, c_45, if_true, if_false, not_true_eq_false, not_false_eq_true]
          · simp only [ruM, c_14, c_45, if_true, if_false, not_true_eq_false, not_false_eq_true]
            exact hR
      · refine zz_ldc2 C _ d_Mo_rule_35 co_Mo_134 ?_
        refine zz_goto (tgt := 42) C d_Mo_rule_38 (by decide) ?_
        have hlim : liM (nI q) = 3 := by rw [c_32]; decide
        refine zz_callSr (e := 0) C hR d_Mo_rule_42 mk_Mo_88 zy_Mo_in (m_Mo_in (x := v) (y := 0) (z := 3) rfl (by decide) (by decide)) ⟨by decide, by decide⟩ ⟨Nat.zero_le _, Nat.zero_le _⟩ rfl rfl (Nat.le_of_ble_eq_true rfl) ?_
        rw [← hlim]
        refine zz_if_ne (tgt := 50) C d_Mo_rule_45 (by decide) (fun c_45 => ?_) (fun c_45 => ?_)
        refine zz_aload_n C d_Mo_rule_50 rfl rfl ?_
        refine zz_get C d_Mo_rule_51 zf_Mo_46 ((hR _).trans rfl) rfl ?_
        refine zz_iload_n C d_Mo_rule_54 rfl rfl ?_
        refine zz_ialdR (j := q) C hR d_Mo_rule_55 (fun _ _ => rfl) rfl (by omega) (by decide) ?_
        refine zz_istore_n C d_Mo_rule_56 rfl (by decide) rfl ?_
        refine zz_aload_n C d_Mo_rule_57 rfl rfl ?_
        refine zz_get C d_Mo_rule_58 zf_Mo_46 ((hR _).trans rfl) rfl ?_
        refine zz_iload_n C d_Mo_rule_61 rfl rfl ?_
        refine zz_iload_n C d_Mo_rule_62 rfl rfl ?_
        refine zz_iastR (j := q) C hR d_Mo_rule_63 (fun _ _ => rfl) rfl (by omega) (by decide) (fun h hR => ?_)
        refine zz_iload_n C d_Mo_rule_64 rfl rfl ?_
        refine zz_iret C Z d_Mo_rule_65 ?_
        refine ⟨?_, rfl, ?_⟩
        · simp only [ruM, c_14, c_45, eq, if_true, if_false, not_true_eq_false, not_false_eq_true]
          try rfl
        · simp only [ruM, c_14, c_45, eq, if_true, if_false, not_true_eq_false, not_false_eq_true]
          exact hR
        · refine zz_iconst (v := -1) C d_Mo_rule_48 (by decide) ?_
          refine zz_iret C Z d_Mo_rule_49 ?_
          refine ⟨?_, rfl, ?_⟩
          · simp only [ruM, c_14, c_45, if_true, if_false, not_true_eq_false, not_false_eq_true]
          · simp only [ruM, c_14, c_45, if_true, if_false, not_true_eq_false, not_false_eq_true]
            exact hR
    · refine zz_ldc2 C _ d_Mo_rule_24 co_Mo_109 ?_
      refine zz_goto (tgt := 42) C d_Mo_rule_27 (by decide) ?_
      have hlim : liM (nI q) = 2 := by simp only [liM, c_21, if_true, if_false, not_true_eq_false, not_false_eq_true]
      refine zz_callSr (e := 0) C hR d_Mo_rule_42 mk_Mo_88 zy_Mo_in (m_Mo_in (x := v) (y := 0) (z := 2) rfl (by decide) (by decide)) ⟨by decide, by decide⟩ ⟨Nat.zero_le _, Nat.zero_le _⟩ rfl rfl (Nat.le_of_ble_eq_true rfl) ?_
      rw [← hlim]
      refine zz_if_ne (tgt := 50) C d_Mo_rule_45 (by decide) (fun c_45 => ?_) (fun c_45 => ?_)
      refine zz_aload_n C d_Mo_rule_50 rfl rfl ?_
      refine zz_get C d_Mo_rule_51 zf_Mo_46 ((hR _).trans rfl) rfl ?_
      refine zz_iload_n C d_Mo_rule_54 rfl rfl ?_
      refine zz_ialdR (j := q) C hR d_Mo_rule_55 (fun _ _ => rfl) rfl (by omega) (by decide) ?_
      refine zz_istore_n C d_Mo_rule_56 rfl (by decide) rfl ?_
      refine zz_aload_n C d_Mo_rule_57 rfl rfl ?_
      refine zz_get C d_Mo_rule_58 zf_Mo_46 ((hR _).trans rfl) rfl ?_
      refine zz_iload_n C d_Mo_rule_61 rfl rfl ?_
      refine zz_iload_n C d_Mo_rule_62 rfl rfl ?_
      refine zz_iastR (j := q) C hR d_Mo_rule_63 (fun _ _ => rfl) rfl (by omega) (by decide) (fun h hR => ?_)
      refine zz_iload_n C d_Mo_rule_64 rfl rfl ?_
      refine zz_iret C Z d_Mo_rule_65 ?_
      refine ⟨?_, rfl, ?_⟩
      · simp only [ruM, c_14, c_45, eq, if_true, if_false, not_true_eq_false, not_false_eq_true]
        try rfl
      · simp only [ruM, c_14, c_45, eq, if_true, if_false, not_true_eq_false, not_false_eq_true]
        exact hR
      · refine zz_iconst (v := -1) C d_Mo_rule_48 (by decide) ?_
        refine zz_iret C Z d_Mo_rule_49 ?_
        refine ⟨?_, rfl, ?_⟩
        · simp only [ruM, c_14, c_45, if_true, if_false, not_true_eq_false, not_false_eq_true]
        · simp only [ruM, c_14, c_45, if_true, if_false, not_true_eq_false, not_false_eq_true]
          exact hR
set_option maxRecDepth 100000 in
set_option maxHeartbeats 4000000 in
theorem lp_Mo_count {X : zX} {post : Option Value → (Nat → Nat) → zH → Prop} (C : zc X E b_Mo_count 4 "BranchTreesModel" (zR 1)) (Z : zr X E (some .int) 0 0 post) {x : Int32} (hrc : rc ≤ 16) (hM : μ 40 8 = nI rc) {h : zH} (hR : zRep E ad al μ pa h) (kx : zz X E 4 ad 0 0 40 [some (.ref (ad 40)), some (.int x), some (.int (ocF (μ 50) rc)), some (.int (nI rc))] [] h) :
    ∀ (d i : Nat), rc - i = d → i ≤ rc → zz X E 4 ad 0 0 9 [some (.ref (ad 40)), some (.int x), some (.int (ocF (μ 50) i)), some (.int (nI i))] [] h := by
  intro d
  induction d with
  | zero =>
    intro i hd hin
    have e : i = rc := by omega
    subst e
    refine zz_iload_n C d_Mo_count_9 rfl rfl ?_
    refine zz_aload_n C d_Mo_count_10 rfl rfl ?_
    refine zz_getV C hR (nI i) _ d_Mo_count_11 zf_Mo_115 rfl rfl hM ?_
    refine zz_icmp_ge (tgt := 40) C d_Mo_count_14 (by decide) (fun c_14 => ?_) (fun c_14 => ?_)
    · exact kx
    · exact absurd (nI_le (Nat.le_refl _) (by omega)) c_14
  | succ d ih =>
    intro i hd hin
    have hlt : i < rc := by omega
    have K := ih (i + 1) (by omega) hlt
    have e : ocF (μ 50) (i + 1) = if μ 50 i = 0 then ocF (μ 50) i else ocF (μ 50) i + 1 := rfl
    rw [e] at K
    refine zz_iload_n C d_Mo_count_9 rfl rfl ?_
    refine zz_aload_n C d_Mo_count_10 rfl rfl ?_
    refine zz_getV C hR (nI rc) _ d_Mo_count_11 zf_Mo_115 rfl rfl hM ?_
    refine zz_icmp_ge (tgt := 40) C d_Mo_count_14 (by decide) (fun c_14 => ?_) (fun c_14 => ?_)
    · exact absurd c_14 (nI_ge hlt (by omega))
    · refine zz_aload_n C d_Mo_count_17 rfl rfl ?_
      refine zz_get C d_Mo_count_18 zf_Mo_42 ((hR _).trans rfl) rfl ?_
      refine zz_iload_n C d_Mo_count_21 rfl rfl ?_
      refine zz_zaldR (j := i) C hR d_Mo_count_22 (fun _ _ => rfl) rfl (by omega) (by decide) ?_
      refine zz_if_eq (tgt := 32) C d_Mo_count_23 (by decide) (fun c_23 => ?_) (fun c_23 => ?_)
      · rw [if_pos c_23] at K
        refine zz_iload_n C d_Mo_count_32 rfl rfl ?_
        refine zz_istore_n C d_Mo_count_33 rfl (by decide) rfl ?_
        refine zz_iinc C d_Mo_count_34 rfl (nI_inc _) (by decide) rfl ?_
        refine zz_goto (tgt := 9) C d_Mo_count_37 (by decide) ?_
        exact K
      · rw [if_neg c_23] at K
        refine zz_iload_n C d_Mo_count_26 rfl rfl ?_
        refine zz_iconst (v := 1) C d_Mo_count_27 (by decide) ?_
        refine zz_iadd C d_Mo_count_28 ?_
        refine zz_goto (tgt := 33) C d_Mo_count_29 (by decide) ?_
        refine zz_istore_n C d_Mo_count_33 rfl (by decide) rfl ?_
        refine zz_iinc C d_Mo_count_34 rfl (nI_inc _) (by decide) rfl ?_
        refine zz_goto (tgt := 9) C d_Mo_count_37 (by decide) ?_
        exact K
set_option maxRecDepth 100000 in
set_option maxHeartbeats 4000000 in
theorem m_Mo_count {x : Int32} (hC : CI n rc sz al c V) (hM : MM n rc sz V pv μ pa) : sMet l y_Mo_count b_Mo_count 4 (some .int) (zR 1) E [.ref (ad 40), .int x] ad al μ pa (some (.int (ctF sz V x))) μ pa := by
  intro h hR
  refine zMet.of (L := [some (.ref (ad 40)), some (.int x), none, none]) (by decide +kernel) (Nat.le_of_ble_eq_true rfl) rfl 2 rfl fun X hl C Z => ?_
  have h16 := hC.r16
  have h6 := hC.sz6
  have ho : ocF (th μ 50) rc = V 1 9 := by
    rw [hC.1.2.2.2.2.2.1]
    exact oc_congr rc fun q hq => (hM.1.2.2.2 q (by omega)).2.2.1
  have hc : ∀ s, isM (th μ) s sz = cnF V s sz := fun s => isM_cn (hM.2.2.1.sc th_sc) sz (Nat.le_refl _)
  refine zz_aload_n C d_Mo_count_0 rfl rfl ?_
  refine zz_iconst (v := 0) C d_Mo_count_1 (by decide) ?_
  refine zz_putI C hR d_Mo_count_2 zp_Mo_1 rfl rfl rfl (Nat.le_of_ble_eq_true rfl) rfl (fun h hR => ?_)
  have hR : zRep E ad al (th μ) pa h := hR
  refine zz_iconst (v := 0) C d_Mo_count_5 (by decide) ?_
  refine zz_istore_n C d_Mo_count_6 rfl (by decide) rfl ?_
  refine zz_iconst (v := 0) C d_Mo_count_7 (by decide) ?_
  refine zz_istore_n C d_Mo_count_8 rfl (by decide) rfl ?_
  refine lp_Mo_count (μ := th μ) C Z h16 hM.M hR ?_ rc 0 rfl (Nat.zero_le _)
  rw [ho]
  refine zz_iload_n C d_Mo_count_40 rfl rfl ?_
  by_cases e0 : x = 0
  · subst e0
    refine zz_tableIn (tgt := 96) C d_Mo_count_41 (by decide) (by decide) (off := 55) rfl (by decide) ?_
    refine zz_aload_n C d_Mo_count_96 rfl rfl ?_
    refine zz_getV C hR (V 1 7) _ d_Mo_count_97 zf_Mo_85 rfl rfl (hM.N.trans hC.N.symm) ?_
    refine zz_iret C Z d_Mo_count_100 ?_
    exact ⟨by simp [ctF], rfl, _, th_sc, hR⟩
  by_cases e1 : x = 1
  · subst e1
    refine zz_tableIn (tgt := 101) C d_Mo_count_41 (by decide) (by decide) (off := 60) rfl (by decide) ?_
    refine zz_aload_n C d_Mo_count_101 rfl rfl ?_
    refine zz_getV C hR (V 1 8) _ d_Mo_count_102 zf_Mo_115 rfl rfl (hM.M.trans hC.M.symm) ?_
    refine zz_iret C Z d_Mo_count_105 ?_
    exact ⟨by simp [ctF], rfl, _, th_sc, hR⟩
  by_cases e2 : x = 2
  · subst e2
    refine zz_tableIn (tgt := 106) C d_Mo_count_41 (by decide) (by decide) (off := 65) rfl (by decide) ?_
    refine zz_iload_n C d_Mo_count_106 rfl rfl ?_
    refine zz_iret C Z d_Mo_count_107 ?_
    exact ⟨by simp [ctF], rfl, _, th_sc, hR⟩
  by_cases e3 : x = 3
  · subst e3
    refine zz_tableIn (tgt := 108) C d_Mo_count_41 (by decide) (by decide) (off := 67) rfl (by decide) ?_
    refine zz_aload_n C d_Mo_count_108 rfl rfl ?_
    refine zz_getV C hR (V 14 1) _ d_Mo_count_109 zf_Mo_92 rfl rfl (hM.S.trans hC.S.symm) ?_
    refine zz_iret C Z d_Mo_count_112 ?_
    exact ⟨by simp [ctF], rfl, _, th_sc, hR⟩
  by_cases e4 : x = 4
  · subst e4
    refine zz_tableIn (tgt := 113) C d_Mo_count_41 (by decide) (by decide) (off := 72) rfl (by decide) ?_
    refine zz_aload_n C d_Mo_count_113 rfl rfl ?_
    refine zz_iconst (v := 0) C d_Mo_count_114 (by decide) ?_
    refine zz_callVr (e := 0) C hR d_Mo_count_115 mk_Mo_197 zy_Mo_inState (m_Mo_inState (μ := th μ) hM.S h6) ⟨by decide, by decide⟩ ⟨Nat.zero_le _, Nat.zero_le _⟩ rfl rfl rfl rfl (Nat.le_of_ble_eq_true rfl) ?_
    rw [hc]
    refine zz_iret C Z d_Mo_count_118 ?_
    exact ⟨by simp [ctF], rfl, _, th_sc, hR⟩
  by_cases e5 : x = 5
  · subst e5
    refine zz_tableIn (tgt := 119) C d_Mo_count_41 (by decide) (by decide) (off := 78) rfl (by decide) ?_
    refine zz_aload_n C d_Mo_count_119 rfl rfl ?_
    refine zz_getV C hR (V 14 2) _ d_Mo_count_120 zf_Mo_95 rfl rfl hM.2.2.2.1 ?_
    refine zz_iret C Z d_Mo_count_123 ?_
    exact ⟨by simp [ctF], rfl, _, th_sc, hR⟩
  by_cases e6 : x = 6
  · subst e6
    refine zz_tableIn (tgt := 124) C d_Mo_count_41 (by decide) (by decide) (off := 83) rfl (by decide) ?_
    refine zz_aload_n C d_Mo_count_124 rfl rfl ?_
    refine zz_getV C hR (V 9 1) _ d_Mo_count_125 zf_Mo_98 rfl rfl hM.2.1.1 ?_
    refine zz_if_eq (tgt := 135) C d_Mo_count_128 (by decide) (fun c_128 => ?_) (fun c_128 => ?_)
    · refine zz_iconst (v := 0) C d_Mo_count_135 (by decide) ?_
      refine zz_iret C Z d_Mo_count_136 ?_
      exact ⟨by simp [ctF, c_128], rfl, _, th_sc, hR⟩
    · refine zz_iconst (v := 1) C d_Mo_count_131 (by decide) ?_
      refine zz_goto (tgt := 136) C d_Mo_count_132 (by decide) ?_
      refine zz_iret C Z d_Mo_count_136 ?_
      exact ⟨by simp [ctF, c_128], rfl, _, th_sc, hR⟩
  by_cases e7 : x = 7
  · subst e7
    refine zz_tableIn (tgt := 137) C d_Mo_count_41 (by decide) (by decide) (off := 96) rfl (by decide) ?_
    refine zz_aload_n C d_Mo_count_137 rfl rfl ?_
    refine zz_iconst (v := 2) C d_Mo_count_138 (by decide) ?_
    refine zz_callVr (e := 0) C hR d_Mo_count_139 mk_Mo_197 zy_Mo_inState (m_Mo_inState (μ := th μ) hM.S h6) ⟨by decide, by decide⟩ ⟨Nat.zero_le _, Nat.zero_le _⟩ rfl rfl rfl rfl (Nat.le_of_ble_eq_true rfl) ?_
    rw [hc]
    refine zz_iret C Z d_Mo_count_142 ?_
    exact ⟨by simp [ctF], rfl, _, th_sc, hR⟩
  by_cases e8 : x = 8
  · subst e8
    refine zz_tableIn (tgt := 143) C d_Mo_count_41 (by decide) (by decide) (off := 102) rfl (by decide) ?_
    refine zz_aload_n C d_Mo_count_143 rfl rfl ?_
    refine zz_iconst (v := 3) C d_Mo_count_144 (by decide) ?_
    refine zz_callVr (e := 0) C hR d_Mo_count_145 mk_Mo_197 zy_Mo_inState (m_Mo_inState (μ := th μ) hM.S h6) ⟨by decide, by decide⟩ ⟨Nat.zero_le _, Nat.zero_le _⟩ rfl rfl rfl rfl (Nat.le_of_ble_eq_true rfl) ?_
    rw [hc]
    refine zz_iret C Z d_Mo_count_148 ?_
    exact ⟨by simp [ctF], rfl, _, th_sc, hR⟩
  by_cases e9 : x = 9
  · subst e9
    refine zz_tableIn (tgt := 149) C d_Mo_count_41 (by decide) (by decide) (off := 108) rfl (by decide) ?_
    refine zz_aload_n C d_Mo_count_149 rfl rfl ?_
    refine zz_iconst (v := 4) C d_Mo_count_150 (by decide) ?_
    refine zz_callVr (e := 0) C hR d_Mo_count_151 mk_Mo_197 zy_Mo_inState (m_Mo_inState (μ := th μ) hM.S h6) ⟨by decide, by decide⟩ ⟨Nat.zero_le _, Nat.zero_le _⟩ rfl rfl rfl rfl (Nat.le_of_ble_eq_true rfl) ?_
    rw [hc]
    refine zz_iret C Z d_Mo_count_154 ?_
    exact ⟨by simp [ctF], rfl, _, th_sc, hR⟩
  refine zz_tableOut (tgt := 155) C d_Mo_count_41 (tab09 e0 e1 e2 e3 e4 e5 e6 e7 e8 e9) (by decide) ?_
  refine zz_iconst (v := -1) C d_Mo_count_155 (by decide) ?_
  refine zz_iret C Z d_Mo_count_156 ?_
  exact ⟨by simp [ctF, e0, e1, e2, e3, e4, e5, e6, e7, e8, e9], rfl, _, th_sc, hR⟩
set_option maxRecDepth 100000 in
set_option maxHeartbeats 4000000 in
theorem lp_Mo_node {X : zX} {post : Option Value → (Nat → Nat) → zH → Prop} (C : zc X E b_Mo_node 5 "BranchTreesModel" (zR 2)) (Z : zr X E (some .int) 0 0 post) {x w D : Int32} (hsz : sz ≤ 600) (hT : mT n sz V μ) (hv : ∀ j, j < sz → tv n V j) {h : zH} (hR : zRep E ad al μ pa h) (hpost : post (some (.int D)) ad h) :
    ∀ (b j : Nat), j < b → j < sz → ∀ d : Int32, d + V (100 + 4 * j) 6 + 1 = D → zz X E 5 ad 0 0 141 [some (.ref (ad 40)), some (.int x), some (.int w), some (.int d), some (.int (nI j))] [] h := by
  intro b
  induction b with
  | zero => intro j hj; omega
  | succ b ih =>
    intro j hj hjs d hd
    refine zz_iload C d_Mo_node_141 rfl ?_
    refine zz_if_lt (tgt := 161) C d_Mo_node_143 (by decide) (fun c_143 => ?_) (fun c_143 => ?_)
    · exact absurd c_143 (nI_pos (by omega))
    · refine zz_iinc C d_Mo_node_146 rfl rfl (by decide) rfl ?_
      refine zz_aload_n C d_Mo_node_149 rfl rfl ?_
      refine zz_get C d_Mo_node_150 zf_Mo_52 ((hR _).trans rfl) rfl ?_
      refine zz_iload C d_Mo_node_153 rfl ?_
      refine zz_ialdV (j := j) C hR (V (100 + 4 * j) 2) d_Mo_node_155 (fun _ _ => rfl) rfl (by omega) (by decide) (hT.2 j hjs).1 ?_
      refine zz_istore C d_Mo_node_156 (by decide) rfl ?_
      refine zz_goto (tgt := 141) C d_Mo_node_158 (by decide) ?_
      rcases hv j hjs with ⟨q0, q1, q2, q3, q4⟩ | ⟨p, a, q1, q2, q3, q4, q5, q6, q7⟩
      · rw [q1]
        rw [q3, Int32.add_zero] at hd
        have hd : d + Int32.ofInt 1 = D := hd
        refine zz_iload C d_Mo_node_141 rfl ?_
        refine zz_if_lt (tgt := 161) C d_Mo_node_143 (by decide) (fun c_143 => ?_) (fun c_143 => ?_)
        · refine zz_iload_n C d_Mo_node_161 rfl rfl ?_
          refine zz_iret C Z d_Mo_node_162 ?_
          rw [hd]
          exact hpost
        · exact absurd (by decide) c_143
      · rw [q3]
        refine ih p (by omega) (by omega) _ ?_
        rw [q5] at hd
        rw [← hd]
        show d + 1 + V (100 + 4 * p) 6 + 1 = _
        grind
set_option maxRecDepth 100000 in
set_option maxHeartbeats 4000000 in
theorem m_Mo_node {x w : Int32} (hC : CI n rc sz al c V) (hM : MM n rc sz V pv μ pa) : sMet l y_Mo_node b_Mo_node 5 (some .int) (zR 2) E [.ref (ad 40), .int x, .int w] ad al μ pa (some (.int (noF sz V x w))) μ pa := by
  intro h hR
  refine zMet.of (L := [some (.ref (ad 40)), some (.int x), some (.int w), none, none]) (by decide +kernel) (Nat.le_of_ble_eq_true rfl) rfl 2 rfl fun X hl C Z => ?_
  have h6 := hC.sz6
  have hT : mT n sz V (th μ) := hM.2.2.1.sc th_sc
  refine zz_aload_n C d_Mo_node_0 rfl rfl ?_
  refine zz_iconst (v := 0) C d_Mo_node_1 (by decide) ?_
  refine zz_putI C hR d_Mo_node_2 zp_Mo_1 rfl rfl rfl (Nat.le_of_ble_eq_true rfl) rfl (fun h hR => ?_)
  have hR : zRep E ad al (th μ) pa h := hR
  refine zz_iload_n C d_Mo_node_5 rfl rfl ?_
  refine zz_i2l C d_Mo_node_6 ?_
  refine zz_lconst (v := 0) C d_Mo_node_7 (by decide) ?_
  refine zz_aload_n C d_Mo_node_8 rfl rfl ?_
  refine zz_getV C hR (nI sz) _ d_Mo_node_9 zf_Mo_92 rfl rfl hM.S ?_
  refine zz_iconst (v := 1) C d_Mo_node_12 (by decide) ?_
  refine zz_isub C d_Mo_node_13 ?_
  refine zz_i2l C d_Mo_node_14 ?_
  refine zz_callSr (e := 0) C hR d_Mo_node_15 mk_Mo_88 zy_Mo_in (m_Mo_in (x := x) (y := 0) (z := nI sz - 1) rfl (by decide) rfl) ⟨by decide, by decide⟩ ⟨Nat.zero_le _, Nat.zero_le _⟩ rfl rfl (Nat.le_of_ble_eq_true rfl) ?_
  rw [inF_has (by omega)]
  refine zz_if_ne (tgt := 24) C d_Mo_node_18 (by decide) (fun c_18 => ?_) (fun c_18 => ?_)
  · obtain ⟨j, hj, hx⟩ := hasN_ok c_18 (show sz < 2 ^ 31 by omega)
    subst hx
    have ho : atO sz (nI j) = some j := by
      rcases atO_cases (nI j) (sz := sz) (by omega) with ⟨q | q, -⟩ | ⟨p, hp, hx, ho⟩
      · exact absurd q (nI_pos (by omega))
      · exact absurd q (nI_ge hj (by omega))
      · rw [ho, (nI_eq (by omega) (by omega)).mp hx]
    refine zz_iload_n C d_Mo_node_24 rfl rfl ?_
    by_cases e0 : w = 0
    · subst e0
      refine zz_tableIn (tgt := 76) C d_Mo_node_25 (by decide) (by decide) (off := 51) rfl (by decide) ?_
      refine zz_aload_n C d_Mo_node_76 rfl rfl ?_
      refine zz_get C d_Mo_node_77 zf_Mo_52 ((hR _).trans rfl) rfl ?_
      refine zz_iload_n C d_Mo_node_80 rfl rfl ?_
      refine zz_ialdV (j := j) C hR (V (100 + 4 * j) 2) d_Mo_node_81 (fun _ _ => rfl) rfl (by omega) (by decide) (hT.2 j hj).1 ?_
      refine zz_iret C Z d_Mo_node_82 ?_
      exact ⟨by simp [noF, ho], rfl, _, th_sc, hR⟩
    by_cases e1 : w = 1
    · subst e1
      refine zz_tableIn (tgt := 83) C d_Mo_node_25 (by decide) (by decide) (off := 58) rfl (by decide) ?_
      refine zz_aload_n C d_Mo_node_83 rfl rfl ?_
      refine zz_get C d_Mo_node_84 zf_Mo_55 ((hR _).trans rfl) rfl ?_
      refine zz_iload_n C d_Mo_node_87 rfl rfl ?_
      refine zz_ialdV (j := j) C hR (V (100 + 4 * j) 3) d_Mo_node_88 (fun _ _ => rfl) rfl (by omega) (by decide) (hT.2 j hj).2.1 ?_
      refine zz_iret C Z d_Mo_node_89 ?_
      exact ⟨by simp [noF, ho], rfl, _, th_sc, hR⟩
    by_cases e2 : w = 2
    · subst e2
      refine zz_tableIn (tgt := 90) C d_Mo_node_25 (by decide) (by decide) (off := 65) rfl (by decide) ?_
      refine zz_aload_n C d_Mo_node_90 rfl rfl ?_
      refine zz_get C d_Mo_node_91 zf_Mo_58 ((hR _).trans rfl) rfl ?_
      refine zz_iload_n C d_Mo_node_94 rfl rfl ?_
      refine zz_ialdV (j := j) C hR (V (100 + 4 * j) 4) d_Mo_node_95 (fun _ _ => rfl) rfl (by omega) (by decide) (hT.2 j hj).2.2.1 ?_
      refine zz_iret C Z d_Mo_node_96 ?_
      exact ⟨by simp [noF, ho], rfl, _, th_sc, hR⟩
    by_cases e3 : w = 3
    · subst e3
      refine zz_tableIn (tgt := 97) C d_Mo_node_25 (by decide) (by decide) (off := 72) rfl (by decide) ?_
      refine zz_aload_n C d_Mo_node_97 rfl rfl ?_
      refine zz_get C d_Mo_node_98 zf_Mo_61 ((hR _).trans rfl) rfl ?_
      refine zz_iload_n C d_Mo_node_101 rfl rfl ?_
      refine zz_ialdV (j := j) C hR (V (100 + 4 * j) 5) d_Mo_node_102 (fun _ _ => rfl) rfl (by omega) (by decide) (hT.2 j hj).2.2.2.1 ?_
      refine zz_iret C Z d_Mo_node_103 ?_
      exact ⟨by simp [noF, ho], rfl, _, th_sc, hR⟩
    by_cases e4 : w = 4
    · subst e4
      refine zz_tableIn (tgt := 104) C d_Mo_node_25 (by decide) (by decide) (off := 79) rfl (by decide) ?_
      refine zz_aload_n C d_Mo_node_104 rfl rfl ?_
      refine zz_get C d_Mo_node_105 zf_Mo_64 ((hR _).trans rfl) rfl ?_
      refine zz_iload_n C d_Mo_node_108 rfl rfl ?_
      refine zz_ialdV (j := j) C hR (V (100 + 4 * j) 7) d_Mo_node_109 (fun _ _ => rfl) rfl (by omega) (by decide) (hT.2 j hj).2.2.2.2.1 ?_
      refine zz_iret C Z d_Mo_node_110 ?_
      exact ⟨by simp [noF, ho], rfl, _, th_sc, hR⟩
    by_cases e5 : w = 5
    · subst e5
      refine zz_tableIn (tgt := 111) C d_Mo_node_25 (by decide) (by decide) (off := 86) rfl (by decide) ?_
      refine zz_aload_n C d_Mo_node_111 rfl rfl ?_
      refine zz_iload_n C d_Mo_node_112 rfl rfl ?_
      refine zz_callVs (e := 1) C hR d_Mo_node_113 mk_Mo_168 zy_Mo_lower (m_Mo_lowerV hC.n8 (hM.1.sc th_sc) hT h6 hC.tB hC.fc hj) ⟨by decide, by decide⟩ ⟨Nat.zero_le _, Nat.zero_le _⟩ rfl rfl rfl rfl (Nat.le_of_ble_eq_true rfl) (fun h m1 hs_m1 hR => ?_)
      refine zz_iret C Z d_Mo_node_116 ?_
      exact ⟨by simp [noF, ho], rfl, _, th_sc.tr hs_m1, hR⟩
    by_cases e6 : w = 6
    · subst e6
      refine zz_tableIn (tgt := 117) C d_Mo_node_25 (by decide) (by decide) (off := 92) rfl (by decide) ?_
      refine zz_aload_n C d_Mo_node_117 rfl rfl ?_
      refine zz_get C d_Mo_node_118 zf_Mo_67 ((hR _).trans rfl) rfl ?_
      refine zz_iload_n C d_Mo_node_121 rfl rfl ?_
      refine zz_ialdV (j := j) C hR (V (100 + 4 * j) 9) d_Mo_node_122 (fun _ _ => rfl) rfl (by omega) (by decide) (hT.2 j hj).2.2.2.2.2.1 ?_
      refine zz_iret C Z d_Mo_node_123 ?_
      exact ⟨by simp [noF, ho], rfl, _, th_sc, hR⟩
    by_cases e7 : w = 7
    · subst e7
      refine zz_tableIn (tgt := 124) C d_Mo_node_25 (by decide) (by decide) (off := 99) rfl (by decide) ?_
      refine zz_aload_n C d_Mo_node_124 rfl rfl ?_
      refine zz_get C d_Mo_node_125 zf_Mo_70 ((hR _).trans rfl) rfl ?_
      refine zz_iload_n C d_Mo_node_128 rfl rfl ?_
      refine zz_ialdV (j := j) C hR (V (100 + 4 * j) 10) d_Mo_node_129 (fun _ _ => rfl) rfl (by omega) (by decide) (hT.2 j hj).2.2.2.2.2.2.1 ?_
      refine zz_iret C Z d_Mo_node_130 ?_
      exact ⟨by simp [noF, ho], rfl, _, th_sc, hR⟩
    by_cases e8 : w = 8
    · subst e8
      refine zz_tableIn (tgt := 131) C d_Mo_node_25 (by decide) (by decide) (off := 106) rfl (by decide) ?_
      refine zz_iconst (v := 0) C d_Mo_node_131 (by decide) ?_
      refine zz_istore_n C d_Mo_node_132 rfl (by decide) rfl ?_
      refine zz_aload_n C d_Mo_node_133 rfl rfl ?_
      refine zz_get C d_Mo_node_134 zf_Mo_52 ((hR _).trans rfl) rfl ?_
      refine zz_iload_n C d_Mo_node_137 rfl rfl ?_
      refine zz_ialdV (j := j) C hR (V (100 + 4 * j) 2) d_Mo_node_138 (fun _ _ => rfl) rfl (by omega) (by decide) (hT.2 j hj).1 ?_
      refine zz_istore C d_Mo_node_139 (by decide) rfl ?_
      rcases hC.tv j hj with ⟨q0, q1, q2, q3, q4⟩ | ⟨p, a, q1, q2, q3, q4, q5, q6, q7⟩
      · rw [q1]
        refine zz_iload C d_Mo_node_141 rfl ?_
        refine zz_if_lt (tgt := 161) C d_Mo_node_143 (by decide) (fun c_143 => ?_) (fun c_143 => ?_)
        · refine zz_iload_n C d_Mo_node_161 rfl rfl ?_
          refine zz_iret C Z d_Mo_node_162 ?_
          exact ⟨by simp [noF, ho, q3], rfl, _, th_sc, hR⟩
        · exact absurd (by decide) c_143
      · rw [q3]
        refine lp_Mo_node C Z (D := V (100 + 4 * j) 6) h6 hT hC.tv hR ⟨by simp [noF, ho], rfl, _, th_sc, hR⟩ (p + 1) p (by omega) (by omega) _ ?_
        rw [q5]
        grind
    refine zz_tableOut (tgt := 163) C d_Mo_node_25 (tab08 e0 e1 e2 e3 e4 e5 e6 e7 e8) (by decide) ?_
    refine zz_ldc C _ d_Mo_node_163 co_Mo_195 ?_
    refine zz_iret C Z d_Mo_node_165 ?_
    exact ⟨by simp [noF, ho, e0, e1, e2, e3, e4, e5, e6, e7, e8], rfl, _, th_sc, hR⟩
  · refine zz_ldc C _ d_Mo_node_21 co_Mo_195 ?_
    refine zz_iret C Z d_Mo_node_23 ?_
    have ho : atO sz x = none := by
      rcases atO_cases x (sz := sz) (by omega) with ⟨-, q⟩ | ⟨p, hp, hx, ho⟩
      · exact q
      · subst hx; unfold hasN at c_18; rw [if_neg (nI_pos (by omega)), if_neg (nI_ge hp (by omega))] at c_18; exact absurd c_18 (by decide)
    exact ⟨by simp only [noF, ho], rfl, _, th_sc, hR⟩
theorem s_restart (hC : CI n rc sz al c V) (hM : MM n rc sz V pv μ pa) : OK al c V (va_up V 14 (upd (upd (V 14) 1 0) 2 0)) pv pv (xMet l y_Mo_restart b_Mo_restart 2 (zR 0) E [.ref (ad 40)] ad al μ pa (V 14 1)) := by
  have e : ∀ k, k ≠ 14 → va_up V 14 (upd (upd (V 14) 1 0) 2 0) k = V k := fun k hk => va_up_ne _ _ hk
  refine ⟨fun k h1 h2 => e k (by omega), rfl, n, rc, 0, ⟨hC.1.fr fun k hk => e k (by omega), hC.2.1, hC.2.2.1, hC.2.2.2.1, rfl, Nat.zero_le _, hC.al6, hC.num' fun k hk => e k (by omega), fun j hj => absurd hj (Nat.not_lt_zero _), fun j hj => absurd hj (Nat.not_lt_zero _)⟩, xMet.w m_Mo_restart (hM.S.trans hC.S.symm) ?_ ?_⟩
  · exact (th_fx.up ⟨by decide, by decide⟩).up ⟨by decide, by decide⟩
  · obtain ⟨m1, m2, m3, m4, m5, m6, m7⟩ := hM
    exact ⟨mP.fr (μ := reM μ) m1 fun k hk => e k (by omega), m2, ⟨rfl, fun j hj => absurd hj (Nat.not_lt_zero _)⟩, rfl, m5, m6, m7⟩
theorem s_best {x : Int32} (hC : CI n rc sz al c V) (hM : MM n rc sz V pv μ pa) : OK al c V V pv pv (xMet l y_Mo_best b_Mo_best 2 (zR 1) E [.ref (ad 40), .int x] ad al μ pa (beF V x)) := OK.sames hC hM (m_Mo_best hC hM)
theorem s_count {x : Int32} (hC : CI n rc sz al c V) (hM : MM n rc sz V pv μ pa) : OK al c V V pv pv (xMet l y_Mo_count b_Mo_count 4 (zR 1) E [.ref (ad 40), .int x] ad al μ pa (ctF sz V x)) := OK.sames hC hM (m_Mo_count hC hM)
theorem s_node {x w : Int32} (hC : CI n rc sz al c V) (hM : MM n rc sz V pv μ pa) : OK al c V V pv pv (xMet l y_Mo_node b_Mo_node 5 (zR 2) E [.ref (ad 40), .int x, .int w] ad al μ pa (noF sz V x w)) := OK.sames hC hM (m_Mo_node hC hM)
end MFACE2
