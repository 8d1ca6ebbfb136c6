/-! MODEL: the face's simple calls -/
def th (μ : Nat → Nat → Int32) : Nat → Nat → Int32 := va_up μ 40 (upd (μ 40) 0 0)
def ftN (μ : Nat → Nat → Int32) : Nat → Nat → Int32 := ptR (ptA0 μ) 8
def nmM (n : Nat) (μ : Nat → Nat → Int32) (pa : Nat → Nat → Int64) (x y : Int32) : zO := if inW x 50 = 0 then (-1, th μ, pa) else if inW y 50 = 0 then (-1, th μ, pa) else if x ≤ y then (if n < 8 then (nI n, ftN (va_up (va_up (va_up (th μ) 41 (upd (μ 41) n x)) 42 (upd (μ 42) n y)) 40 (upd (upd (μ 40) 0 0) 1 (nI (n + 1)))), ptL pa 8) else (-3, th μ, pa)) else (-1, th μ, pa)
def roM (n : Nat) (μ : Nat → Nat → Int32) (pa : Nat → Nat → Int64) (x y : Int32) : zO := if inF x 0 2 = 0 then (-1, th μ, pa) else if ¬ inW y 1000 = 0 then (if n < 16 then (nI n, ftN (va_up (va_up (va_up (th μ) 48 (upd (μ 48) n x)) 49 (upd (μ 49) n y)) 40 (upd (upd (μ 40) 0 0) 8 (nI (n + 1)))), ptL pa 8) else (-3, th μ, pa)) else (-1, th μ, pa)
def faM (n rc : Nat) (μ : Nat → Nat → Int32) (pa : Nat → Nat → Int64) (x y f : Int32) : zO := if hasN x (nI rc) = 0 then (-1000, th μ, pa) else if hasN y (nI n) = 0 then (-1000, th μ, pa) else if ¬ inW f 20 = 0 then (μ 47 (8 * x.toNatClampNeg + y.toNatClampNeg), ftN (va_up (th μ) 47 (upd (μ 47) (8 * x.toNatClampNeg + y.toNatClampNeg) f)), ptL pa 8) else (-1000, th μ, pa)
def csM (n : Nat) (μ : Nat → Nat → Int32) (pa : Nat → Nat → Int64) (x f : Int32) : zO := if hasN x (nI n) = 0 then (-1000, th μ, pa) else if ¬ inW f 20 = 0 then (μ 45 x.toNatClampNeg, ftN (va_up (th μ) 45 (upd (μ 45) x.toNatClampNeg f)), ptL pa 8) else (-1000, th μ, pa)
def saM (n : Nat) (μ : Nat → Nat → Int32) (pa : Nat → Nat → Int64) (x f : Int32) : zO := if hasN x (nI n) = 0 then (-1000, th μ, pa) else if ¬ inW f 50 = 0 then (μ 46 x.toNatClampNeg, va_up (th μ) 46 (upd (μ 46) x.toNatClampNeg f), pa) else (-1000, th μ, pa)
def prM (n : Nat) (μ : Nat → Nat → Int32) (pa : Nat → Nat → Int64) (x : Int32) : zO := if hasN x (nI n) = 0 then (-1, th μ, pa) else (prmF (pa 43 x.toNatClampNeg) (μ 44 x.toNatClampNeg), th μ, pa)
def bfM (sz n : Nat) (μ : Nat → Nat → Int32) (pa : Nat → Nat → Int64) (x y w : Int32) : zO := if hasN x (nI sz) = 0 then (-1000, th μ, pa) else if hasN y (nI n) = 0 then (-1000, th μ, pa) else if ¬ inF w 0 1 = 0 then (if ¬ w = 1 then μ 61 (8 * x.toNatClampNeg + y.toNatClampNeg) else μ 60 (8 * x.toNatClampNeg + y.toNatClampNeg), th μ, pa) else (-1000, th μ, pa)
section MFACE
variable {l : Launch} {E : zE} {ad : Nat → Nat} {al : Nat} {μ : Nat → Nat → Int32} {pa : Nat → Nat → Int64}
set_option maxRecDepth 100000 in
set_option maxHeartbeats 4000000 in
theorem m_Mo_name {n : Nat} {x y : Int32} (hn : n ≤ 8) (hN : μ 40 1 = nI n) : wMet l y_Mo_name b_Mo_name 3 (some .int) (zR 1) E [.ref (ad 40), .int x, .int y] ad al μ pa (some (.int (nmM n μ pa x y).1)) (nmM n μ pa x y).2.1 (nmM n μ pa x y).2.2 := by
  intro h hR
  refine zMet.of (L := [some (.ref (ad 40)), some (.int x), some (.int y)]) (by decide +kernel) (Nat.le_of_ble_eq_true rfl) rfl 0 rfl fun X hl C Z => ?_
  refine zz_aload_n C d_Mo_name_0 rfl rfl ?_
  refine zz_iconst (v := 0) C d_Mo_name_1 (by decide) ?_
  refine zz_putI C hR d_Mo_name_2 zp_Mo_1 rfl rfl rfl (Nat.le_of_ble_eq_true rfl) rfl (fun h hR => ?_)
  have hR : zRep E ad al (th μ) pa h := hR
  refine zz_iload_n C d_Mo_name_5 rfl rfl ?_
  refine zz_i2l C d_Mo_name_6 ?_
  refine zz_ldc2 C _ d_Mo_name_7 co_Mo_102 ?_
  refine zz_ldc2 C _ d_Mo_name_10 co_Mo_104 ?_
  refine zz_callSr (e := 0) C hR d_Mo_name_13 mk_Mo_88 zy_Mo_in (m_Mo_in (x := x) (y := -50) (z := 50) rfl (by decide) (by decide)) ⟨by decide, by decide⟩ ⟨Nat.zero_le _, Nat.zero_le _⟩ rfl rfl (Nat.le_of_ble_eq_true rfl) ?_
  rw [show inF x (-50) 50 = inW x 50 from rfl]
  refine zz_if_eq (tgt := 38) C d_Mo_name_16 (by decide) (fun c_16 => ?_) (fun c_16 => ?_)
  · refine zz_iconst (v := -1) C d_Mo_name_38 (by decide) ?_
    refine zz_iret C Z d_Mo_name_39 ?_
    refine ⟨?_, rfl, ?_⟩
    · simp only [nmM, c_16, if_true, if_false, not_true_eq_false, not_false_eq_true]
      try rfl
    · simp only [nmM, c_16, if_true, if_false, not_true_eq_false, not_false_eq_true]
      exact hR
  · refine zz_iload_n C d_Mo_name_19 rfl rfl ?_
    refine zz_i2l C d_Mo_name_20 ?_
    refine zz_ldc2 C _ d_Mo_name_21 co_Mo_102 ?_
    refine zz_ldc2 C _ d_Mo_name_24 co_Mo_104 ?_
    refine zz_callSr (e := 0) C hR d_Mo_name_27 mk_Mo_88 zy_Mo_in (m_Mo_in (x := y) (y := -50) (z := 50) rfl (by decide) (by decide)) ⟨by decide, by decide⟩ ⟨Nat.zero_le _, Nat.zero_le _⟩ rfl rfl (Nat.le_of_ble_eq_true rfl) ?_
    rw [show inF y (-50) 50 = inW y 50 from rfl]
    refine zz_if_eq (tgt := 38) C d_Mo_name_30 (by decide) (fun c_30 => ?_) (fun c_30 => ?_)
    · refine zz_iconst (v := -1) C d_Mo_name_38 (by decide) ?_
      refine zz_iret C Z d_Mo_name_39 ?_
      refine ⟨?_, rfl, ?_⟩
      · simp only [nmM, c_16, c_30, if_true, if_false, not_true_eq_false, not_false_eq_true]
        try rfl
      · simp only [nmM, c_16, c_30, if_true, if_false, not_true_eq_false, not_false_eq_true]
        exact hR
    · refine zz_iload_n C d_Mo_name_33 rfl rfl ?_
      refine zz_iload_n C d_Mo_name_34 rfl rfl ?_
      refine zz_icmp_le (tgt := 40) C d_Mo_name_35 (by decide) (fun c_35 => ?_) (fun c_35 => ?_)
      · rcases Nat.lt_or_ge n 8 with hl8 | hl8
        · have e1 : μ 40 1 + 1 = nI (n + 1) := by rw [hN, nI_1]
          refine zz_aload_n C d_Mo_name_40 rfl rfl ?_
          refine zz_getV C hR (nI n) _ d_Mo_name_41 zf_Mo_85 rfl rfl hN ?_
          refine zz_bipush (v := 8) C d_Mo_name_44 (by decide) ?_
          refine zz_icmp_ne (tgt := 52) C d_Mo_name_46 (by decide) (fun c_46 => ?_) (fun c_46 => ?_)
          · refine zz_aload_n C d_Mo_name_52 rfl rfl ?_
            refine zz_get C d_Mo_name_53 zf_Mo_13 ((hR _).trans rfl) rfl ?_
            refine zz_aload_n C d_Mo_name_56 rfl rfl ?_
            refine zz_get C d_Mo_name_57 zf_Mo_85 ((hR _).trans rfl) rfl ?_
            refine zz_iload_n C d_Mo_name_60 rfl rfl ?_
            refine zz_iastR (j := n) C hR d_Mo_name_61 (fun _ _ => rfl) hN hl8 (by decide) (fun h hR => ?_)
            refine zz_aload_n C d_Mo_name_62 rfl rfl ?_
            refine zz_get C d_Mo_name_63 zf_Mo_17 ((hR _).trans rfl) rfl ?_
            refine zz_aload_n C d_Mo_name_66 rfl rfl ?_
            refine zz_get C d_Mo_name_67 zf_Mo_85 ((hR _).trans rfl) rfl ?_
            refine zz_iload_n C d_Mo_name_70 rfl rfl ?_
            refine zz_iastR (j := n) C hR d_Mo_name_71 (fun _ _ => rfl) hN hl8 (by decide) (fun h hR => ?_)
            refine zz_aload_n C d_Mo_name_72 rfl rfl ?_
            refine zz_dup C d_Mo_name_73 rfl ?_
            refine zz_get C d_Mo_name_74 zf_Mo_85 ((hR _).trans rfl) rfl ?_
            refine zz_iconst (v := 1) C d_Mo_name_77 (by decide) ?_
            refine zz_iadd C d_Mo_name_78 ?_
            refine zz_putI C hR d_Mo_name_79 zp_Mo_85 rfl rfl rfl (Nat.le_of_ble_eq_true rfl) rfl (fun h hR => ?_)
            refine zz_aload_n C d_Mo_name_82 rfl rfl ?_
            refine zz_callVv (e := 0) C hR d_Mo_name_83 mk_Mo_106 zy_Mo_problemTold m_Mo_problemTold ⟨by decide, by decide⟩ ⟨Nat.zero_le _, Nat.zero_le _⟩ rfl rfl rfl rfl (Nat.le_of_ble_eq_true rfl) (fun h hR => ?_)
            refine zz_aload_n C d_Mo_name_86 rfl rfl ?_
            refine zz_get C d_Mo_name_87 zf_Mo_85 ((hR _).trans rfl) rfl ?_
            refine zz_iconst (v := 1) C d_Mo_name_90 (by decide) ?_
            refine zz_isub C d_Mo_name_91 ?_
            refine zz_iret C Z d_Mo_name_92 ?_
            refine ⟨?_, rfl, ?_⟩
            · simp only [nmM, c_16, c_30, c_35, hl8, if_true, if_false, not_true_eq_false, not_false_eq_true]
              show some (Value.int (μ 40 1 + 1 - 1)) = _
              rw [e1, nI_pred]
            · simp only [nmM, c_16, c_30, c_35, hl8, if_true, if_false, not_true_eq_false, not_false_eq_true, ← e1]
              exact hR
          · exact absurd ((nI_eq (b := 8) (by omega) (by decide)).mp c_46) (by omega)
        · have e : n = 8 := by omega
          subst e
          refine zz_aload_n C d_Mo_name_40 rfl rfl ?_
          refine zz_get C d_Mo_name_41 zf_Mo_85 ((hR _).trans rfl) rfl ?_
          refine zz_bipush (v := 8) C d_Mo_name_44 (by decide) ?_
          refine zz_icmp_ne (tgt := 52) C d_Mo_name_46 (by decide) (fun c_46 => ?_) (fun c_46 => ?_)
          · exact absurd hN c_46
          · refine zz_bipush (v := -3) C d_Mo_name_49 (by decide) ?_
            refine zz_iret C Z d_Mo_name_51 ?_
            refine ⟨?_, rfl, ?_⟩
            · simp only [nmM, c_16, c_30, c_35, show ¬ (8 : Nat) < 8 by omega, if_true, if_false, not_true_eq_false, not_false_eq_true]
            · simp only [nmM, c_16, c_30, c_35, show ¬ (8 : Nat) < 8 by omega, if_true, if_false, not_true_eq_false, not_false_eq_true]
              exact hR
      · refine zz_iconst (v := -1) C d_Mo_name_38 (by decide) ?_
        refine zz_iret C Z d_Mo_name_39 ?_
        refine ⟨?_, rfl, ?_⟩
        · simp only [nmM, c_16, c_30, c_35, if_true, if_false, not_true_eq_false, not_false_eq_true]
          try rfl
        · simp only [nmM, c_16, c_30, c_35, if_true, if_false, not_true_eq_false, not_false_eq_true]
          exact hR
set_option maxRecDepth 100000 in
set_option maxHeartbeats 4000000 in
theorem m_Mo_row {n : Nat} {x y : Int32} (hn : n ≤ 16) (hN : μ 40 8 = nI n) : wMet l y_Mo_row b_Mo_row 3 (some .int) (zR 1) E [.ref (ad 40), .int x, .int y] ad al μ pa (some (.int (roM n μ pa x y).1)) (roM n μ pa x y).2.1 (roM n μ pa x y).2.2 := by
  intro h hR
  refine zMet.of (L := [some (.ref (ad 40)), some (.int x), some (.int y)]) (by decide +kernel) (Nat.le_of_ble_eq_true rfl) rfl 0 rfl fun X hl C Z => ?_
  refine zz_aload_n C d_Mo_row_0 rfl rfl ?_
  refine zz_iconst (v := 0) C d_Mo_row_1 (by decide) ?_
  refine zz_putI C hR d_Mo_row_2 zp_Mo_1 rfl rfl rfl (Nat.le_of_ble_eq_true rfl) rfl (fun h hR => ?_)
  have hR : zRep E ad al (th μ) pa h := hR
  refine zz_iload_n C d_Mo_row_5 rfl rfl ?_
  refine zz_i2l C d_Mo_row_6 ?_
  refine zz_lconst (v := 0) C d_Mo_row_7 (by decide) ?_
  refine zz_ldc2 C _ d_Mo_row_8 co_Mo_109 ?_
  refine zz_callSr (e := 0) C hR d_Mo_row_11 mk_Mo_88 zy_Mo_in (m_Mo_in (x := x) (y := 0) (z := 2) rfl (by decide) (by decide)) ⟨by decide, by decide⟩ ⟨Nat.zero_le _, Nat.zero_le _⟩ rfl rfl (Nat.le_of_ble_eq_true rfl) ?_
  refine zz_if_eq (tgt := 31) C d_Mo_row_14 (by decide) (fun c_14 => ?_) (fun c_14 => ?_)
  · refine zz_iconst (v := -1) C d_Mo_row_31 (by decide) ?_
    refine zz_iret C Z d_Mo_row_32 ?_
    refine ⟨?_, rfl, ?_⟩
    · simp only [roM, c_14, if_true, if_false, not_true_eq_false, not_false_eq_true]
      try rfl
    · simp only [roM, c_14, if_true, if_false, not_true_eq_false, not_false_eq_true]
      exact hR
  · refine zz_iload_n C d_Mo_row_17 rfl rfl ?_
    refine zz_i2l C d_Mo_row_18 ?_
    refine zz_ldc2 C _ d_Mo_row_19 co_Mo_111 ?_
    refine zz_ldc2 C _ d_Mo_row_22 co_Mo_113 ?_
    refine zz_callSr (e := 0) C hR d_Mo_row_25 mk_Mo_88 zy_Mo_in (m_Mo_in (x := y) (y := -1000) (z := 1000) rfl (by decide) (by decide)) ⟨by decide, by decide⟩ ⟨Nat.zero_le _, Nat.zero_le _⟩ rfl rfl (Nat.le_of_ble_eq_true rfl) ?_
    rw [show inF y (-1000) 1000 = inW y 1000 from rfl]
    refine zz_if_ne (tgt := 33) C d_Mo_row_28 (by decide) (fun c_28 => ?_) (fun c_28 => ?_)
    · rcases Nat.lt_or_ge n 16 with hl8 | hl8
      · have e1 : μ 40 8 + 1 = nI (n + 1) := by rw [hN, nI_1]
        refine zz_aload_n C d_Mo_row_33 rfl rfl ?_
        refine zz_getV C hR (nI n) _ d_Mo_row_34 zf_Mo_115 rfl rfl hN ?_
        refine zz_bipush (v := 16) C d_Mo_row_37 (by decide) ?_
        refine zz_icmp_ne (tgt := 45) C d_Mo_row_39 (by decide) (fun c_39 => ?_) (fun c_39 => ?_)
        · refine zz_aload_n C d_Mo_row_45 rfl rfl ?_
          refine zz_get C d_Mo_row_46 zf_Mo_36 ((hR _).trans rfl) rfl ?_
          refine zz_aload_n C d_Mo_row_49 rfl rfl ?_
          refine zz_get C d_Mo_row_50 zf_Mo_115 ((hR _).trans rfl) rfl ?_
          refine zz_iload_n C d_Mo_row_53 rfl rfl ?_
          refine zz_iastR (j := n) C hR d_Mo_row_54 (fun _ _ => rfl) hN hl8 (by decide) (fun h hR => ?_)
          refine zz_aload_n C d_Mo_row_55 rfl rfl ?_
          refine zz_get C d_Mo_row_56 zf_Mo_39 ((hR _).trans rfl) rfl ?_
          refine zz_aload_n C d_Mo_row_59 rfl rfl ?_
          refine zz_get C d_Mo_row_60 zf_Mo_115 ((hR _).trans rfl) rfl ?_
          refine zz_iload_n C d_Mo_row_63 rfl rfl ?_
          refine zz_iastR (j := n) C hR d_Mo_row_64 (fun _ _ => rfl) hN hl8 (by decide) (fun h hR => ?_)
          refine zz_aload_n C d_Mo_row_65 rfl rfl ?_
          refine zz_dup C d_Mo_row_66 rfl ?_
          refine zz_get C d_Mo_row_67 zf_Mo_115 ((hR _).trans rfl) rfl ?_
          refine zz_iconst (v := 1) C d_Mo_row_70 (by decide) ?_
          refine zz_iadd C d_Mo_row_71 ?_
          refine zz_putI C hR d_Mo_row_72 zp_Mo_115 rfl rfl rfl (Nat.le_of_ble_eq_true rfl) rfl (fun h hR => ?_)
          refine zz_aload_n C d_Mo_row_75 rfl rfl ?_
          refine zz_callVv (e := 0) C hR d_Mo_row_76 mk_Mo_106 zy_Mo_problemTold m_Mo_problemTold ⟨by decide, by decide⟩ ⟨Nat.zero_le _, Nat.zero_le _⟩ rfl rfl rfl rfl (Nat.le_of_ble_eq_true rfl) (fun h hR => ?_)
          refine zz_aload_n C d_Mo_row_79 rfl rfl ?_
          refine zz_get C d_Mo_row_80 zf_Mo_115 ((hR _).trans rfl) rfl ?_
          refine zz_iconst (v := 1) C d_Mo_row_83 (by decide) ?_
          refine zz_isub C d_Mo_row_84 ?_
          refine zz_iret C Z d_Mo_row_85 ?_
          refine ⟨?_, rfl, ?_⟩
          · simp only [roM, c_14, c_28, hl8, if_true, if_false, not_true_eq_false, not_false_eq_true]
            show some (Value.int (μ 40 8 + 1 - 1)) = _
            rw [e1, nI_pred]
          · simp only [roM, c_14, c_28, hl8, if_true, if_false, not_true_eq_false, not_false_eq_true, ← e1]
            exact hR
        · exact absurd ((nI_eq (b := 16) (by omega) (by decide)).mp c_39) (by omega)
      · have e : n = 16 := by omega
        subst e
        refine zz_aload_n C d_Mo_row_33 rfl rfl ?_
        refine zz_get C d_Mo_row_34 zf_Mo_115 ((hR _).trans rfl) rfl ?_
        refine zz_bipush (v := 16) C d_Mo_row_37 (by decide) ?_
        refine zz_icmp_ne (tgt := 45) C d_Mo_row_39 (by decide) (fun c_39 => ?_) (fun c_39 => ?_)
        · exact absurd hN c_39
        · refine zz_bipush (v := -3) C d_Mo_row_42 (by decide) ?_
          refine zz_iret C Z d_Mo_row_44 ?_
          refine ⟨?_, rfl, ?_⟩
          · simp only [roM, c_14, c_28, show ¬ (16 : Nat) < 16 by omega, if_true, if_false, not_true_eq_false, not_false_eq_true]
          · simp only [roM, c_14, c_28, show ¬ (16 : Nat) < 16 by omega, if_true, if_false, not_true_eq_false, not_false_eq_true]
            exact hR
    · refine zz_iconst (v := -1) C d_Mo_row_31 (by decide) ?_
      refine zz_iret C Z d_Mo_row_32 ?_
      refine ⟨?_, rfl, ?_⟩
      · simp only [roM, c_14, c_28, if_true, if_false, not_true_eq_false, not_false_eq_true]
        try rfl
      · simp only [roM, c_14, c_28, if_true, if_false, not_true_eq_false, not_false_eq_true]
        exact hR
set_option maxRecDepth 100000 in
set_option maxHeartbeats 4000000 in
theorem m_Mo_factor {n rc : Nat} (hn : n ≤ 8) (hN : μ 40 1 = nI n) (hrc : rc ≤ 16) (hM : μ 40 8 = nI rc) {x y f : Int32} : wMet l y_Mo_factor b_Mo_factor 5 (some .int) (zR 2) E [.ref (ad 40), .int x, .int y, .int f] ad al μ pa (some (.int (faM n rc μ pa x y f).1)) (faM n rc μ pa x y f).2.1 (faM n rc μ pa x y f).2.2 := by
  intro h hR
  refine zMet.of (L := [some (.ref (ad 40)), some (.int x), some (.int y), some (.int f), none]) (by decide +kernel) (Nat.le_of_ble_eq_true rfl) rfl 1 rfl fun X hl C Z => ?_
  refine zz_aload_n C d_Mo_factor_0 rfl rfl ?_
  refine zz_iconst (v := 0) C d_Mo_factor_1 (by decide) ?_
  refine zz_putI C hR d_Mo_factor_2 zp_Mo_1 rfl rfl rfl (Nat.le_of_ble_eq_true rfl) rfl (fun h hR => ?_)
  have hR : zRep E ad al (th μ) pa h := hR
  refine zz_iload_n C d_Mo_factor_5 rfl rfl ?_
  refine zz_i2l C d_Mo_factor_6 ?_
  refine zz_lconst (v := 0) C d_Mo_factor_7 (by decide) ?_
  refine zz_aload_n C d_Mo_factor_8 rfl rfl ?_
  refine zz_getV C hR (nI rc) _ d_Mo_factor_9 zf_Mo_115 rfl rfl hM ?_
  refine zz_iconst (v := 1) C d_Mo_factor_12 (by decide) ?_
  refine zz_isub C d_Mo_factor_13 ?_
  refine zz_i2l C d_Mo_factor_14 ?_
  refine zz_callSr (e := 0) C hR d_Mo_factor_15 mk_Mo_88 zy_Mo_in (m_Mo_in (x := x) (y := 0) (z := nI rc - 1) rfl (by decide) rfl) ⟨by decide, by decide⟩ ⟨Nat.zero_le _, Nat.zero_le _⟩ rfl rfl (Nat.le_of_ble_eq_true rfl) ?_
  rw [inF_has (by omega)]
  refine zz_if_eq (tgt := 43) C d_Mo_factor_18 (by decide) (fun c_18 => ?_) (fun c_18 => ?_)
  · refine zz_sipush (v := -1000) C d_Mo_factor_43 (by decide) ?_
    refine zz_iret C Z d_Mo_factor_46 ?_
    refine ⟨?_, rfl, ?_⟩
    · simp only [faM, c_18, if_true, if_false, not_true_eq_false, not_false_eq_true]
      try rfl
    · simp only [faM, c_18, if_true, if_false, not_true_eq_false, not_false_eq_true]
      exact hR
  · refine zz_aload_n C d_Mo_factor_21 rfl rfl ?_
    refine zz_iload_n C d_Mo_factor_22 rfl rfl ?_
    refine zz_callVr (e := 1) C hR d_Mo_factor_23 mk_Mo_118 zy_Mo_noName (m_Mo_noName hn hN) ⟨by decide, by decide⟩ ⟨Nat.zero_le _, Nat.zero_le _⟩ rfl rfl rfl rfl (Nat.le_of_ble_eq_true rfl) ?_
    refine zz_if_ne (tgt := 43) C d_Mo_factor_26 (by decide) (fun c_26 => ?_) (fun c_26 => ?_)
    · have c_26 : hasN y (nI n) = 0 := Decidable.byContradiction (fun q => c_26 (by rw [if_pos q]))
      refine zz_sipush (v := -1000) C d_Mo_factor_43 (by decide) ?_
      refine zz_iret C Z d_Mo_factor_46 ?_
      refine ⟨?_, rfl, ?_⟩
      · simp only [faM, c_18, c_26, if_true, if_false, not_true_eq_false, not_false_eq_true]
        try rfl
      · simp only [faM, c_18, c_26, if_true, if_false, not_true_eq_false, not_false_eq_true]
        exact hR
    · have c_26 : ¬ hasN y (nI n) = 0 := fun q => absurd (by rw [if_neg (fun z => z q)] at c_26; exact c_26) (by decide)
      refine zz_iload_n C d_Mo_factor_29 rfl rfl ?_
      refine zz_i2l C d_Mo_factor_30 ?_
      refine zz_ldc2 C _ d_Mo_factor_31 co_Mo_122 ?_
      refine zz_ldc2 C _ d_Mo_factor_34 co_Mo_124 ?_
      refine zz_callSr (e := 0) C hR d_Mo_factor_37 mk_Mo_88 zy_Mo_in (m_Mo_in (x := f) (y := -20) (z := 20) rfl (by decide) (by decide)) ⟨by decide, by decide⟩ ⟨Nat.zero_le _, Nat.zero_le _⟩ rfl rfl (Nat.le_of_ble_eq_true rfl) ?_
      rw [show inF f (-20) 20 = inW f 20 from rfl]
      refine zz_if_ne (tgt := 47) C d_Mo_factor_40 (by decide) (fun c_40 => ?_) (fun c_40 => ?_)
      · obtain ⟨r, hr, hx⟩ := hasN_ok c_18 (show rc < 2 ^ 31 by omega)
        obtain ⟨a, ha, hy⟩ := hasN_ok c_26 (show n < 2 ^ 31 by omega)
        subst hx
        subst hy
        have er : (nI r).toNatClampNeg = r := nI_clamp (by omega)
        have ea : (nI a).toNatClampNeg = a := nI_clamp (by omega)
        refine zz_aload_n C d_Mo_factor_47 rfl rfl ?_
        refine zz_get C d_Mo_factor_48 zf_Mo_33 ((hR _).trans rfl) rfl ?_
        refine zz_bipush (v := 8) C d_Mo_factor_51 (by decide) ?_
        refine zz_iload_n C d_Mo_factor_53 rfl rfl ?_
        refine zz_imul C d_Mo_factor_54 ?_
        refine zz_iload_n C d_Mo_factor_55 rfl rfl ?_
        refine zz_iadd C d_Mo_factor_56 ?_
        refine zz_ialdR (j := 8 * r + a) C hR d_Mo_factor_57 (fun _ _ => rfl) (ix8 r a) (by omega) (by decide) ?_
        refine zz_istore C d_Mo_factor_58 (by decide) rfl ?_
        refine zz_aload_n C d_Mo_factor_60 rfl rfl ?_
        refine zz_get C d_Mo_factor_61 zf_Mo_33 ((hR _).trans rfl) rfl ?_
        refine zz_bipush (v := 8) C d_Mo_factor_64 (by decide) ?_
        refine zz_iload_n C d_Mo_factor_66 rfl rfl ?_
        refine zz_imul C d_Mo_factor_67 ?_
        refine zz_iload_n C d_Mo_factor_68 rfl rfl ?_
        refine zz_iadd C d_Mo_factor_69 ?_
        refine zz_iload_n C d_Mo_factor_70 rfl rfl ?_
        refine zz_iastR (j := 8 * r + a) C hR d_Mo_factor_71 (fun _ _ => rfl) (ix8 r a) (by omega) (by decide) (fun h hR => ?_)
        refine zz_aload_n C d_Mo_factor_72 rfl rfl ?_
        refine zz_callVv (e := 0) C hR d_Mo_factor_73 mk_Mo_106 zy_Mo_problemTold m_Mo_problemTold ⟨by decide, by decide⟩ ⟨Nat.zero_le _, Nat.zero_le _⟩ rfl rfl rfl rfl (Nat.le_of_ble_eq_true rfl) (fun h hR => ?_)
        refine zz_iload C d_Mo_factor_76 rfl ?_
        refine zz_iret C Z d_Mo_factor_78 ?_
        refine ⟨?_, rfl, ?_⟩
        · simp only [faM, c_18, c_26, c_40, er, ea, if_true, if_false, not_true_eq_false, not_false_eq_true]
          try rfl
        · simp only [faM, c_18, c_26, c_40, er, ea, if_true, if_false, not_true_eq_false, not_false_eq_true]
          exact hR
      · refine zz_sipush (v := -1000) C d_Mo_factor_43 (by decide) ?_
        refine zz_iret C Z d_Mo_factor_46 ?_
        refine ⟨?_, rfl, ?_⟩
        · simp only [faM, c_18, c_26, c_40, if_true, if_false, not_true_eq_false, not_false_eq_true]
          try rfl
        · simp only [faM, c_18, c_26, c_40, if_true, if_false, not_true_eq_false, not_false_eq_true]
          exact hR
set_option maxRecDepth 100000 in
set_option maxHeartbeats 4000000 in
theorem m_Mo_cost {n : Nat} {x f : Int32} (hn : n ≤ 8) (hN : μ 40 1 = nI n) : wMet l y_Mo_cost b_Mo_cost 4 (some .int) (zR 2) E [.ref (ad 40), .int x, .int f] ad al μ pa (some (.int (csM n μ pa x f).1)) (csM n μ pa x f).2.1 (csM n μ pa x f).2.2 := by
  intro h hR
  refine zMet.of (L := [some (.ref (ad 40)), some (.int x), some (.int f), none]) (by decide +kernel) (Nat.le_of_ble_eq_true rfl) rfl 1 rfl fun X hl C Z => ?_
  refine zz_aload_n C d_Mo_cost_0 rfl rfl ?_
  refine zz_iconst (v := 0) C d_Mo_cost_1 (by decide) ?_
  refine zz_putI C hR d_Mo_cost_2 zp_Mo_1 rfl rfl rfl (Nat.le_of_ble_eq_true rfl) rfl (fun h hR => ?_)
  have hR : zRep E ad al (th μ) pa h := hR
  refine zz_aload_n C d_Mo_cost_5 rfl rfl ?_
  refine zz_iload_n C d_Mo_cost_6 rfl rfl ?_
  refine zz_callVr (e := 1) C hR d_Mo_cost_7 mk_Mo_118 zy_Mo_noName (m_Mo_noName hn hN) ⟨by decide, by decide⟩ ⟨Nat.zero_le _, Nat.zero_le _⟩ rfl rfl rfl rfl (Nat.le_of_ble_eq_true rfl) ?_
  refine zz_if_ne (tgt := 27) C d_Mo_cost_10 (by decide) (fun c_10 => ?_) (fun c_10 => ?_)
  · have c_10 : hasN x (nI n) = 0 := Decidable.byContradiction (fun q => c_10 (by rw [if_pos q]))
    refine zz_sipush (v := -1000) C d_Mo_cost_27 (by decide) ?_
    refine zz_iret C Z d_Mo_cost_30 ?_
    refine ⟨?_, rfl, ?_⟩
    · simp only [csM, c_10, if_true, if_false, not_true_eq_false, not_false_eq_true]
      try rfl
    · simp only [csM, c_10, if_true, if_false, not_true_eq_false, not_false_eq_true]
      exact hR
  · have c_10 : ¬ hasN x (nI n) = 0 := fun q => absurd (by rw [if_neg (fun z => z q)] at c_10; exact c_10) (by decide)
    refine zz_iload_n C d_Mo_cost_13 rfl rfl ?_
    refine zz_i2l C d_Mo_cost_14 ?_
    refine zz_ldc2 C _ d_Mo_cost_15 co_Mo_122 ?_
    refine zz_ldc2 C _ d_Mo_cost_18 co_Mo_124 ?_
    refine zz_callSr (e := 0) C hR d_Mo_cost_21 mk_Mo_88 zy_Mo_in (m_Mo_in (x := f) (y := -20) (z := 20) rfl (by decide) (by decide)) ⟨by decide, by decide⟩ ⟨Nat.zero_le _, Nat.zero_le _⟩ rfl rfl (Nat.le_of_ble_eq_true rfl) ?_
    rw [show inF f (-20) 20 = inW f 20 from rfl]
    refine zz_if_ne (tgt := 31) C d_Mo_cost_24 (by decide) (fun c_24 => ?_) (fun c_24 => ?_)
    · obtain ⟨a, ha, hy⟩ := hasN_ok c_10 (show n < 2 ^ 31 by omega)
      subst hy
      have ea : (nI a).toNatClampNeg = a := nI_clamp (by omega)
      refine zz_aload_n C d_Mo_cost_31 rfl rfl ?_
      refine zz_get C d_Mo_cost_32 zf_Mo_27 ((hR _).trans rfl) rfl ?_
      refine zz_iload_n C d_Mo_cost_35 rfl rfl ?_
      refine zz_ialdR (j := a) C hR d_Mo_cost_36 (fun _ _ => rfl) rfl (by omega) (by decide) ?_
      refine zz_istore_n C d_Mo_cost_37 rfl (by decide) rfl ?_
      refine zz_aload_n C d_Mo_cost_38 rfl rfl ?_
      refine zz_get C d_Mo_cost_39 zf_Mo_27 ((hR _).trans rfl) rfl ?_
      refine zz_iload_n C d_Mo_cost_42 rfl rfl ?_
      refine zz_iload_n C d_Mo_cost_43 rfl rfl ?_
      refine zz_iastR (j := a) C hR d_Mo_cost_44 (fun _ _ => rfl) rfl (by omega) (by decide) (fun h hR => ?_)
      refine zz_aload_n C d_Mo_cost_45 rfl rfl ?_
      refine zz_callVv (e := 0) C hR d_Mo_cost_46 mk_Mo_106 zy_Mo_problemTold m_Mo_problemTold ⟨by decide, by decide⟩ ⟨Nat.zero_le _, Nat.zero_le _⟩ rfl rfl rfl rfl (Nat.le_of_ble_eq_true rfl) (fun h hR => ?_)
      refine zz_iload_n C d_Mo_cost_49 rfl rfl ?_
      refine zz_iret C Z d_Mo_cost_50 ?_
      refine ⟨?_, rfl, ?_⟩
      · simp only [csM, c_10, c_24, ea, if_true, if_false, not_true_eq_false, not_false_eq_true]
        try rfl
      · simp only [csM, c_10, c_24, ea, if_true, if_false, not_true_eq_false, not_false_eq_true]
        exact hR
    · refine zz_sipush (v := -1000) C d_Mo_cost_27 (by decide) ?_
      refine zz_iret C Z d_Mo_cost_30 ?_
      refine ⟨?_, rfl, ?_⟩
      · simp only [csM, c_10, c_24, if_true, if_false, not_true_eq_false, not_false_eq_true]
        try rfl
      · simp only [csM, c_10, c_24, if_true, if_false, not_true_eq_false, not_false_eq_true]
        exact hR
set_option maxRecDepth 100000 in
set_option maxHeartbeats 4000000 in
theorem m_Mo_start {n : Nat} {x f : Int32} (hn : n ≤ 8) (hN : μ 40 1 = nI n) : wMet l y_Mo_start b_Mo_start 4 (some .int) (zR 2) E [.ref (ad 40), .int x, .int f] ad al μ pa (some (.int (saM n μ pa x f).1)) (saM n μ pa x f).2.1 (saM n μ pa x f).2.2 := by
  intro h hR
  refine zMet.of (L := [some (.ref (ad 40)), some (.int x), some (.int f), none]) (by decide +kernel) (Nat.le_of_ble_eq_true rfl) rfl 1 rfl fun X hl C Z => ?_
  refine zz_aload_n C d_Mo_start_0 rfl rfl ?_
  refine zz_iconst (v := 0) C d_Mo_start_1 (by decide) ?_
  refine zz_putI C hR d_Mo_start_2 zp_Mo_1 rfl rfl rfl (Nat.le_of_ble_eq_true rfl) rfl (fun h hR => ?_)
  have hR : zRep E ad al (th μ) pa h := hR
  refine zz_aload_n C d_Mo_start_5 rfl rfl ?_
  refine zz_iload_n C d_Mo_start_6 rfl rfl ?_
  refine zz_callVr (e := 1) C hR d_Mo_start_7 mk_Mo_118 zy_Mo_noName (m_Mo_noName hn hN) ⟨by decide, by decide⟩ ⟨Nat.zero_le _, Nat.zero_le _⟩ rfl rfl rfl rfl (Nat.le_of_ble_eq_true rfl) ?_
  refine zz_if_ne (tgt := 27) C d_Mo_start_10 (by decide) (fun c_10 => ?_) (fun c_10 => ?_)
  · have c_10 : hasN x (nI n) = 0 := Decidable.byContradiction (fun q => c_10 (by rw [if_pos q]))
    refine zz_sipush (v := -1000) C d_Mo_start_27 (by decide) ?_
    refine zz_iret C Z d_Mo_start_30 ?_
    refine ⟨?_, rfl, ?_⟩
    · simp only [saM, c_10, if_true, if_false, not_true_eq_false, not_false_eq_true]
      try rfl
    · simp only [saM, c_10, if_true, if_false, not_true_eq_false, not_false_eq_true]
      exact hR
  · have c_10 : ¬ hasN x (nI n) = 0 := fun q => absurd (by rw [if_neg (fun z => z q)] at c_10; exact c_10) (by decide)
    refine zz_iload_n C d_Mo_start_13 rfl rfl ?_
    refine zz_i2l C d_Mo_start_14 ?_
    refine zz_ldc2 C _ d_Mo_start_15 co_Mo_102 ?_
    refine zz_ldc2 C _ d_Mo_start_18 co_Mo_104 ?_
    refine zz_callSr (e := 0) C hR d_Mo_start_21 mk_Mo_88 zy_Mo_in (m_Mo_in (x := f) (y := -50) (z := 50) rfl (by decide) (by decide)) ⟨by decide, by decide⟩ ⟨Nat.zero_le _, Nat.zero_le _⟩ rfl rfl (Nat.le_of_ble_eq_true rfl) ?_
    rw [show inF f (-50) 50 = inW f 50 from rfl]
    refine zz_if_ne (tgt := 31) C d_Mo_start_24 (by decide) (fun c_24 => ?_) (fun c_24 => ?_)
    · obtain ⟨a, ha, hy⟩ := hasN_ok c_10 (show n < 2 ^ 31 by omega)
      subst hy
      have ea : (nI a).toNatClampNeg = a := nI_clamp (by omega)
      refine zz_aload_n C d_Mo_start_31 rfl rfl ?_
      refine zz_get C d_Mo_start_32 zf_Mo_30 ((hR _).trans rfl) rfl ?_
      refine zz_iload_n C d_Mo_start_35 rfl rfl ?_
      refine zz_ialdR (j := a) C hR d_Mo_start_36 (fun _ _ => rfl) rfl (by omega) (by decide) ?_
      refine zz_istore_n C d_Mo_start_37 rfl (by decide) rfl ?_
      refine zz_aload_n C d_Mo_start_38 rfl rfl ?_
      refine zz_get C d_Mo_start_39 zf_Mo_30 ((hR _).trans rfl) rfl ?_
      refine zz_iload_n C d_Mo_start_42 rfl rfl ?_
      refine zz_iload_n C d_Mo_start_43 rfl rfl ?_
      refine zz_iastR (j := a) C hR d_Mo_start_44 (fun _ _ => rfl) rfl (by omega) (by decide) (fun h hR => ?_)
      refine zz_iload_n C d_Mo_start_45 rfl rfl ?_
      refine zz_iret C Z d_Mo_start_46 ?_
      refine ⟨?_, rfl, ?_⟩
      · simp only [saM, c_10, c_24, ea, if_true, if_false, not_true_eq_false, not_false_eq_true]
        try rfl
      · simp only [saM, c_10, c_24, ea, if_true, if_false, not_true_eq_false, not_false_eq_true]
        exact hR
    · refine zz_sipush (v := -1000) C d_Mo_start_27 (by decide) ?_
      refine zz_iret C Z d_Mo_start_30 ?_
      refine ⟨?_, rfl, ?_⟩
      · simp only [saM, c_10, c_24, if_true, if_false, not_true_eq_false, not_false_eq_true]
        try rfl
      · simp only [saM, c_10, c_24, if_true, if_false, not_true_eq_false, not_false_eq_true]
        exact hR
set_option maxRecDepth 100000 in
set_option maxHeartbeats 4000000 in
theorem m_Mo_price {n : Nat} {x : Int32} (hn : n ≤ 8) (hN : μ 40 1 = nI n) : wMet l y_Mo_price b_Mo_price 2 (some .int) (zR 2) E [.ref (ad 40), .int x] ad al μ pa (some (.int (prM n μ pa x).1)) (prM n μ pa x).2.1 (prM n μ pa x).2.2 := by
  intro h hR
  refine zMet.of (L := [some (.ref (ad 40)), some (.int x)]) (by decide +kernel) (Nat.le_of_ble_eq_true rfl) rfl 0 rfl fun X hl C Z => ?_
  refine zz_aload_n C d_Mo_price_0 rfl rfl ?_
  refine zz_iconst (v := 0) C d_Mo_price_1 (by decide) ?_
  refine zz_putI C hR d_Mo_price_2 zp_Mo_1 rfl rfl rfl (Nat.le_of_ble_eq_true rfl) rfl (fun h hR => ?_)
  have hR : zRep E ad al (th μ) pa h := hR
  refine zz_aload_n C d_Mo_price_5 rfl rfl ?_
  refine zz_iload_n C d_Mo_price_6 rfl rfl ?_
  refine zz_callVr (e := 1) C hR d_Mo_price_7 mk_Mo_118 zy_Mo_noName (m_Mo_noName hn hN) ⟨by decide, by decide⟩ ⟨Nat.zero_le _, Nat.zero_le _⟩ rfl rfl rfl rfl (Nat.le_of_ble_eq_true rfl) ?_
  refine zz_if_eq (tgt := 17) C d_Mo_price_10 (by decide) (fun c_10 => ?_) (fun c_10 => ?_)
  · have c_10 : ¬ hasN x (nI n) = 0 := fun q => absurd (by rw [if_neg (fun z => z q)] at c_10; exact c_10) (by decide)
    obtain ⟨a, ha, hy⟩ := hasN_ok c_10 (show n < 2 ^ 31 by omega)
    subst hy
    have ea : (nI a).toNatClampNeg = a := nI_clamp (by omega)
    refine zz_aload_n C d_Mo_price_17 rfl rfl ?_
    refine zz_iload_n C d_Mo_price_18 rfl rfl ?_
    refine zz_callVr (e := 0) C hR d_Mo_price_19 mk_Mo_172 zy_Mo_priceOf (m_Mo_priceOf (by omega)) ⟨by decide, by decide⟩ ⟨Nat.zero_le _, Nat.zero_le _⟩ rfl rfl rfl rfl (Nat.le_of_ble_eq_true rfl) ?_
    refine zz_iret C Z d_Mo_price_22 ?_
    refine ⟨?_, rfl, ?_⟩
    · simp only [prM, c_10, ea, if_true, if_false, not_true_eq_false, not_false_eq_true]
      try rfl
    · simp only [prM, c_10, ea, if_true, if_false, not_true_eq_false, not_false_eq_true]
      exact hR
  · have c_10 : hasN x (nI n) = 0 := Decidable.byContradiction (fun q => c_10 (by rw [if_pos q]))
    refine zz_iconst (v := -1) C d_Mo_price_13 (by decide) ?_
    refine zz_goto (tgt := 22) C d_Mo_price_14 (by decide) ?_
    refine zz_iret C Z d_Mo_price_22 ?_
    refine ⟨?_, rfl, ?_⟩
    · simp only [prM, c_10, if_true, if_false, not_true_eq_false, not_false_eq_true]
      try rfl
    · simp only [prM, c_10, if_true, if_false, not_true_eq_false, not_false_eq_true]
      exact hR
set_option maxRecDepth 100000 in
set_option maxHeartbeats 4000000 in
theorem m_Mo_boundOf {n sz : Nat} {x y w : Int32} (hn : n ≤ 8) (hN : μ 40 1 = nI n) (hS : μ 40 17 = nI sz) (hsz : sz ≤ 600) : wMet l y_Mo_boundOf b_Mo_boundOf 4 (some .int) (zR 2) E [.ref (ad 40), .int x, .int y, .int w] ad al μ pa (some (.int (bfM sz n μ pa x y w).1)) (bfM sz n μ pa x y w).2.1 (bfM sz n μ pa x y w).2.2 := by
  intro h hR
  refine zMet.of (L := [some (.ref (ad 40)), some (.int x), some (.int y), some (.int w)]) (by decide +kernel) (Nat.le_of_ble_eq_true rfl) rfl 0 rfl fun X hl C Z => ?_
  refine zz_aload_n C d_Mo_boundOf_0 rfl rfl ?_
  refine zz_iconst (v := 0) C d_Mo_boundOf_1 (by decide) ?_
  refine zz_putI C hR d_Mo_boundOf_2 zp_Mo_1 rfl rfl rfl (Nat.le_of_ble_eq_true rfl) rfl (fun h hR => ?_)
  have hR : zRep E ad al (th μ) pa h := hR
  refine zz_iload_n C d_Mo_boundOf_5 rfl rfl ?_
  refine zz_i2l C d_Mo_boundOf_6 ?_
  refine zz_lconst (v := 0) C d_Mo_boundOf_7 (by decide) ?_
  refine zz_aload_n C d_Mo_boundOf_8 rfl rfl ?_
  refine zz_getV C hR (nI sz) _ d_Mo_boundOf_9 zf_Mo_92 rfl rfl hS ?_
  refine zz_iconst (v := 1) C d_Mo_boundOf_12 (by decide) ?_
  refine zz_isub C d_Mo_boundOf_13 ?_
  refine zz_i2l C d_Mo_boundOf_14 ?_
  refine zz_callSr (e := 0) C hR d_Mo_boundOf_15 mk_Mo_88 zy_Mo_in (m_Mo_in (x := x) (y := 0) (z := nI sz - 1) rfl (by decide) rfl) ⟨by decide, by decide⟩ ⟨Nat.zero_le _, Nat.zero_le _⟩ rfl rfl (Nat.le_of_ble_eq_true rfl) ?_
  rw [inF_has (by omega)]
  refine zz_if_eq (tgt := 39) C d_Mo_boundOf_18 (by decide) (fun c_18 => ?_) (fun c_18 => ?_)
  · refine zz_sipush (v := -1000) C d_Mo_boundOf_39 (by decide) ?_
    refine zz_iret C Z d_Mo_boundOf_42 ?_
    refine ⟨?_, rfl, ?_⟩
    · simp only [bfM, c_18, if_true, if_false, not_true_eq_false, not_false_eq_true]
      try rfl
    · simp only [bfM, c_18, if_true, if_false, not_true_eq_false, not_false_eq_true]
      exact hR
  · refine zz_aload_n C d_Mo_boundOf_21 rfl rfl ?_
    refine zz_iload_n C d_Mo_boundOf_22 rfl rfl ?_
    refine zz_callVr (e := 1) C hR d_Mo_boundOf_23 mk_Mo_118 zy_Mo_noName (m_Mo_noName hn hN) ⟨by decide, by decide⟩ ⟨Nat.zero_le _, Nat.zero_le _⟩ rfl rfl rfl rfl (Nat.le_of_ble_eq_true rfl) ?_
    refine zz_if_ne (tgt := 39) C d_Mo_boundOf_26 (by decide) (fun c_26 => ?_) (fun c_26 => ?_)
    · have c_26 : hasN y (nI n) = 0 := Decidable.byContradiction (fun q => c_26 (by rw [if_pos q]))
      refine zz_sipush (v := -1000) C d_Mo_boundOf_39 (by decide) ?_
      refine zz_iret C Z d_Mo_boundOf_42 ?_
      refine ⟨?_, rfl, ?_⟩
      · simp only [bfM, c_18, c_26, if_true, if_false, not_true_eq_false, not_false_eq_true]
        try rfl
      · simp only [bfM, c_18, c_26, if_true, if_false, not_true_eq_false, not_false_eq_true]
        exact hR
    · have c_26 : ¬ hasN y (nI n) = 0 := fun q => absurd (by rw [if_neg (fun z => z q)] at c_26; exact c_26) (by decide)
      refine zz_iload_n C d_Mo_boundOf_29 rfl rfl ?_
      refine zz_i2l C d_Mo_boundOf_30 ?_
      refine zz_lconst (v := 0) C d_Mo_boundOf_31 (by decide) ?_
      refine zz_lconst (v := 1) C d_Mo_boundOf_32 (by decide) ?_
      refine zz_callSr (e := 0) C hR d_Mo_boundOf_33 mk_Mo_88 zy_Mo_in (m_Mo_in (x := w) (y := 0) (z := 1) rfl (by decide) (by decide)) ⟨by decide, by decide⟩ ⟨Nat.zero_le _, Nat.zero_le _⟩ rfl rfl (Nat.le_of_ble_eq_true rfl) ?_
      refine zz_if_ne (tgt := 43) C d_Mo_boundOf_36 (by decide) (fun c_36 => ?_) (fun c_36 => ?_)
      · obtain ⟨r, hr, hx⟩ := hasN_ok c_18 (show sz < 2 ^ 31 by omega)
        obtain ⟨a, ha, hy⟩ := hasN_ok c_26 (show n < 2 ^ 31 by omega)
        subst hx
        subst hy
        have er : (nI r).toNatClampNeg = r := nI_clamp (by omega)
        have ea : (nI a).toNatClampNeg = a := nI_clamp (by omega)
        refine zz_iload_n C d_Mo_boundOf_43 rfl rfl ?_
        refine zz_iconst (v := 1) C d_Mo_boundOf_44 (by decide) ?_
        refine zz_icmp_ne (tgt := 62) C d_Mo_boundOf_45 (by decide) (fun c_45 => ?_) (fun c_45 => ?_)
        · refine zz_aload_n C d_Mo_boundOf_62 rfl rfl ?_
          refine zz_get C d_Mo_boundOf_63 zf_Mo_76 ((hR _).trans rfl) rfl ?_
          refine zz_bipush (v := 8) C d_Mo_boundOf_66 (by decide) ?_
          refine zz_iload_n C d_Mo_boundOf_68 rfl rfl ?_
          refine zz_imul C d_Mo_boundOf_69 ?_
          refine zz_iload_n C d_Mo_boundOf_70 rfl rfl ?_
          refine zz_iadd C d_Mo_boundOf_71 ?_
          refine zz_ialdR (j := 8 * r + a) C hR d_Mo_boundOf_72 (fun _ _ => rfl) (ix8 r a) (by omega) (by decide) ?_
          refine zz_iret C Z d_Mo_boundOf_73 ?_
          refine ⟨?_, rfl, ?_⟩
          · simp only [bfM, c_18, c_26, c_36, c_45, er, ea, if_true, if_false, not_true_eq_false, not_false_eq_true]
            try rfl
          · simp only [bfM, c_18, c_26, c_36, c_45, er, ea, if_true, if_false, not_true_eq_false, not_false_eq_true]
            exact hR
        · refine zz_aload_n C d_Mo_boundOf_48 rfl rfl ?_
          refine zz_get C d_Mo_boundOf_49 zf_Mo_73 ((hR _).trans rfl) rfl ?_
          refine zz_bipush (v := 8) C d_Mo_boundOf_52 (by decide) ?_
          refine zz_iload_n C d_Mo_boundOf_54 rfl rfl ?_
          refine zz_imul C d_Mo_boundOf_55 ?_
          refine zz_iload_n C d_Mo_boundOf_56 rfl rfl ?_
          refine zz_iadd C d_Mo_boundOf_57 ?_
          refine zz_ialdR (j := 8 * r + a) C hR d_Mo_boundOf_58 (fun _ _ => rfl) (ix8 r a) (by omega) (by decide) ?_
          refine zz_goto (tgt := 73) C d_Mo_boundOf_59 (by decide) ?_
          refine zz_iret C Z d_Mo_boundOf_73 ?_
          refine ⟨?_, rfl, ?_⟩
          · simp only [bfM, c_18, c_26, c_36, c_45, er, ea, if_true, if_false, not_true_eq_false, not_false_eq_true]
            try rfl
          · simp only [bfM, c_18, c_26, c_36, c_45, er, ea, if_true, if_false, not_true_eq_false, not_false_eq_true]
            exact hR
      · refine zz_sipush (v := -1000) C d_Mo_boundOf_39 (by decide) ?_
        refine zz_iret C Z d_Mo_boundOf_42 ?_
        refine ⟨?_, rfl, ?_⟩
        · simp only [bfM, c_18, c_26, c_36, if_true, if_false, not_true_eq_false, not_false_eq_true]
          try rfl
        · simp only [bfM, c_18, c_26, c_36, if_true, if_false, not_true_eq_false, not_false_eq_true]
          exact hR
end MFACE
