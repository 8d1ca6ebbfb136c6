/-! BRANCHTREES: the face, all but run and rule -/
abbrev zO : Type := Int32 × (Nat → Nat → Int32) × (Nat → Nat → Int64)
def ftM (μ : Nat → Nat → Int32) : Nat → Nat → Int32 := fgM (va_up (va_up μ 14 (upd (upd (μ 14) 1 0) 2 0)) 9 (upd (μ 9) 1 0)) 8
def nmF (n : Nat) (μ : Nat → Nat → Int32) (pa : Nat → Nat → Int64) (x y : Int32) : zO := if inW x 50 = 0 then (-1, μ, pa) else if inW y 50 = 0 then (-1, μ, pa) else if x ≤ y then (if n < 8 then (nI n, ftM (anF μ n x y), fgP pa 8) else (-3, μ, pa)) else (-1, μ, pa)
def roF (rc : Nat) (μ : Nat → Nat → Int32) (pa : Nat → Nat → Int64) (x y : Int32) : zO := if x < 0 then (-1, μ, pa) else if 2 < x then (-1, μ, pa) else if ¬ inW y 1000 = 0 then (if rc < 16 then (nI rc, ftM (arF μ rc x y), fgP pa 8) else (-3, μ, pa)) else (-1, μ, pa)
def faF (μ : Nat → Nat → Int32) (pa : Nat → Nat → Int64) (x y f : Int32) : zO := if hasN x (μ 1 8) = 0 then (-1000, μ, pa) else if hasN y (μ 1 7) = 0 then (-1000, μ, pa) else if ¬ inW f 20 = 0 then (μ (24 + x.toNatClampNeg) y.toNatClampNeg, ftM (va_up μ (24 + x.toNatClampNeg) (upd (μ (24 + x.toNatClampNeg)) y.toNatClampNeg f)), fgP pa 8) else (-1000, μ, pa)
def coM (μ : Nat → Nat → Int32) (pa : Nat → Nat → Int64) (x f : Int32) : zO := if hasN x (μ 1 7) = 0 then (-1000, μ, pa) else if ¬ inW f 20 = 0 then (μ 4 x.toNatClampNeg, ftM (va_up μ 4 (upd (μ 4) x.toNatClampNeg f)), fgP pa 8) else (-1000, μ, pa)
def alF (n rc : Nat) (μ : Nat → Nat → Int32) (x y : Int32) : Int32 := if hasN x (μ 1 7) = 0 then -1 else if ¬ hasN y (μ 1 7) = 0 then (if csF μ n rc x.toNatClampNeg y.toNatClampNeg = 0 then 0 else 1) else -1
def orF (n rc : Nat) (μ : Nat → Nat → Int32) (pa : Nat → Nat → Int64) : zO := if μ 1 9 ≤ 0 then (if aosF n n 0 μ rc 1 9 ≤ 0 then (aosF n n 0 μ rc 1 9, aosF n n 0 μ rc, pa) else (aosF n n 0 μ rc 1 9, ftM (aosF n n 0 μ rc), fgP pa 8)) else (-2, μ, pa)
def saF (μ : Nat → Nat → Int32) (pa : Nat → Nat → Int64) (x v : Int32) : zO := if hasN x (μ 1 7) = 0 then (-1000, μ, pa) else if ¬ inW v 50 = 0 then (μ 23 x.toNatClampNeg, va_up μ 23 (upd (μ 23) x.toNatClampNeg v), pa) else (-1000, μ, pa)
def ofF (n rc : Nat) (μ : Nat → Nat → Int32) (pa : Nat → Nat → Int64) : zO := if ¬ plF μ 23 n rc = 0 then (if nabF (μ 9 1) (μ 9 2) (sumF (μ 4) (μ 23) n) = 0 then (1, tkF μ 23 (sumF (μ 4) (μ 23) n), pa) else (0, μ, pa)) else (0, μ, pa)
def beF (μ : Nat → Nat → Int32) (x : Int32) : Int32 := if μ 9 1 = 0 then -1000000 else if ¬ x = -1 then (if ¬ hasN x (μ 1 7) = 0 then μ 10 x.toNatClampNeg else -1000000) else μ 9 2
def boF (sz : Nat) (μ : Nat → Nat → Int32) : Int32 := if ¬ μ 14 1 = 0 then loF μ (if μ 9 1 = 0 then 1000000 else μ 9 2) sz else -1000000
def noF (sz : Nat) (μ : Nat → Nat → Int32) (x w : Int32) : Int32 := match atO sz x with
  | none => -1000000
  | some j => if w = 0 then μ (100 + 4 * j) 2 else if w = 1 then μ (100 + 4 * j) 3 else if w = 2 then μ (100 + 4 * j) 4 else if w = 3 then μ (100 + 4 * j) 5 else if w = 4 then μ (100 + 4 * j) 7 else if w = 5 then μ (100 + 4 * j) 8 else if w = 6 then μ (100 + 4 * j) 9 else if w = 7 then μ (100 + 4 * j) 10 else if w = 8 then μ (100 + 4 * j) 6 else -1000000
def bfF (sz : Nat) (μ : Nat → Nat → Int32) (x y w : Int32) : Int32 := match atO sz x with
  | none => -1000
  | some j => if ¬ hasN y (μ 1 7) = 0 then (if w = 0 then μ (100 + 4 * j + 3) y.toNatClampNeg else if w = 1 then μ (100 + 4 * j + 2) y.toNatClampNeg else -1000) else -1000
def prF (μ : Nat → Nat → Int32) (pa : Nat → Nat → Int64) (x : Int32) : Int32 := if hasN x (μ 1 7) = 0 then -1 else prcF (pa 12 x.toNatClampNeg) (μ 13 x.toNatClampNeg)
def ckF (sz n rc : Nat) (μ : Nat → Nat → Int32) (pa : Nat → Nat → Int64) : zO := if ¬ μ 14 1 = 0 then (if (hoF sz n rc μ).1 = 0 then 0 else 1, (hoF sz n rc μ).2, pa) else (-1, μ, pa)
def ctF (sz : Nat) (μ : Nat → Nat → Int32) (w : Int32) : Int32 := if w = 0 then μ 1 7 else if w = 1 then μ 1 8 else if w = 2 then μ 1 9 else if w = 3 then μ 14 1 else if w = 4 then cnF μ 0 sz else if w = 5 then μ 14 2 else if w = 6 then (if μ 9 1 = 0 then 0 else 1) else if w = 7 then cnF μ 2 sz else if w = 8 then cnF μ 3 sz else if w = 9 then cnF μ 4 sz else -1
theorem tab_out {x : Int32} {lo hi : Int} {P : Prop} (h : ∀ k : Int, lo ≤ k → k ≤ hi → x.toInt = k → P) (hp : ¬ P) : x.toInt < lo ∨ hi < x.toInt := by
  rcases Int.lt_or_le x.toInt lo with a | a
  · exact Or.inl a
  · rcases Int.lt_or_le hi x.toInt with b | b
    · exact Or.inr b
    · exact absurd (h _ a b rfl) hp
theorem i32_of {x : Int32} {k : Int} (c : Int32) (hc : c.toInt = k) (h : x.toInt = k) : x = c := Int32.toInt_inj.mp (by rw [h, hc])
theorem tab08 {x : Int32} (e0 : ¬ x = 0) (e1 : ¬ x = 1) (e2 : ¬ x = 2) (e3 : ¬ x = 3) (e4 : ¬ x = 4) (e5 : ¬ x = 5) (e6 : ¬ x = 6) (e7 : ¬ x = 7) (e8 : ¬ x = 8) : x.toInt < 0 ∨ 8 < x.toInt := by
  have g0 : ¬ x.toInt = 0 := fun q => e0 (i32_of 0 (by decide) q)
  have g1 : ¬ x.toInt = 1 := fun q => e1 (i32_of 1 (by decide) q)
  have g2 : ¬ x.toInt = 2 := fun q => e2 (i32_of 2 (by decide) q)
  have g3 : ¬ x.toInt = 3 := fun q => e3 (i32_of 3 (by decide) q)
  have g4 : ¬ x.toInt = 4 := fun q => e4 (i32_of 4 (by decide) q)
  have g5 : ¬ x.toInt = 5 := fun q => e5 (i32_of 5 (by decide) q)
  have g6 : ¬ x.toInt = 6 := fun q => e6 (i32_of 6 (by decide) q)
  have g7 : ¬ x.toInt = 7 := fun q => e7 (i32_of 7 (by decide) q)
  have g8 : ¬ x.toInt = 8 := fun q => e8 (i32_of 8 (by decide) q)
  omega
theorem tab09 {x : Int32} (e0 : ¬ x = 0) (e1 : ¬ x = 1) (e2 : ¬ x = 2) (e3 : ¬ x = 3) (e4 : ¬ x = 4) (e5 : ¬ x = 5) (e6 : ¬ x = 6) (e7 : ¬ x = 7) (e8 : ¬ x = 8) (e9 : ¬ x = 9) : x.toInt < 0 ∨ 9 < x.toInt := by
  have g0 : ¬ x.toInt = 0 := fun q => e0 (i32_of 0 (by decide) q)
  have g1 : ¬ x.toInt = 1 := fun q => e1 (i32_of 1 (by decide) q)
  have g2 : ¬ x.toInt = 2 := fun q => e2 (i32_of 2 (by decide) q)
  have g3 : ¬ x.toInt = 3 := fun q => e3 (i32_of 3 (by decide) q)
  have g4 : ¬ x.toInt = 4 := fun q => e4 (i32_of 4 (by decide) q)
  have g5 : ¬ x.toInt = 5 := fun q => e5 (i32_of 5 (by decide) q)
  have g6 : ¬ x.toInt = 6 := fun q => e6 (i32_of 6 (by decide) q)
  have g7 : ¬ x.toInt = 7 := fun q => e7 (i32_of 7 (by decide) q)
  have g8 : ¬ x.toInt = 8 := fun q => e8 (i32_of 8 (by decide) q)
  have g9 : ¬ x.toInt = 9 := fun q => e9 (i32_of 9 (by decide) q)
  omega
theorem look01 {x : Int32} (e0 : ¬ x = 0) (e1 : ¬ x = 1) : Op.lookupswitch.offset [(0, 25), (1, 36)] 47 x.toInt = 47 := by
  have g0 : ¬ x.toInt = 0 := fun q => e0 (i32_of 0 (by decide) q)
  have g1 : ¬ x.toInt = 1 := fun q => e1 (i32_of 1 (by decide) q)
  simp [Op.lookupswitch.offset, g0, g1, Ne.symm g0, Ne.symm g1]
section FACE
variable {l : Launch} {E : zE} {ad : Nat → Nat} {al : Nat} {μ : Nat → Nat → Int32} {pa : Nat → Nat → Int64}
set_option maxRecDepth 100000 in
set_option maxHeartbeats 4000000 in
theorem m_BT_forgetSearch : wMet l y_BT_forgetSearch b_BT_forgetSearch 1 none (zR 1) E [.ref (ad 0)] ad al μ pa none (ftM μ) (fgP pa 8) := by
  intro h hR
  refine zMet.of (L := [some (.ref (ad 0))]) (by decide +kernel) (Nat.le_of_ble_eq_true rfl) rfl 0 rfl fun X hl C Z => ?_
  refine zz_aload_n C d_BT_forgetSearch_0 rfl rfl ?_
  refine zz_get C d_BT_forgetSearch_1 zf_BT_33 ((hR _).trans rfl) rfl ?_
  refine zz_callVv (e := 0) C hR d_BT_forgetSearch_4 mk_BT_149 zy_Tr_fell m_Tr_fell ⟨by decide, by decide⟩ ⟨Nat.zero_le _, Nat.zero_le _⟩ rfl rfl rfl rfl (Nat.le_of_ble_eq_true rfl) (fun h hR => ?_)
  refine zz_aload_n C d_BT_forgetSearch_7 rfl rfl ?_
  refine zz_get C d_BT_forgetSearch_8 zf_BT_19 ((hR _).trans rfl) rfl ?_
  refine zz_iconst (v := 0) C d_BT_forgetSearch_11 (by decide) ?_
  refine zz_putI C hR d_BT_forgetSearch_12 zp_BT_145 rfl rfl rfl (Nat.le_of_ble_eq_true rfl) rfl (fun h hR => ?_)
  refine zz_aload_n C d_BT_forgetSearch_15 rfl rfl ?_
  refine zz_get C d_BT_forgetSearch_16 zf_BT_26 ((hR _).trans rfl) rfl ?_
  refine zz_callVv (e := 0) C hR d_BT_forgetSearch_19 mk_BT_220 zy_Pr_forget m_Pr_forget ⟨by decide, by decide⟩ ⟨Nat.zero_le _, Nat.zero_le _⟩ rfl rfl rfl rfl (Nat.le_of_ble_eq_true rfl) (fun h hR => ?_)
  refine zz_vret C Z d_BT_forgetSearch_22 ?_
  exact ⟨rfl, rfl, hR⟩
set_option maxRecDepth 100000 in
set_option maxHeartbeats 4000000 in
theorem m_BT_name {n : Nat} {x y : Int32} (hn : n ≤ 8) (hN : μ 1 7 = nI n) : wMet l y_BT_name b_BT_name 4 (some .int) (zR 2) E [.ref (ad 0), .int x, .int y] ad al μ pa (some (.int (nmF n μ pa x y).1)) (nmF n μ pa x y).2.1 (nmF n μ pa x y).2.2 := by
  intro h hR
  refine zMet.of (L := [some (.ref (ad 0)), some (.int x), some (.int y), none]) (by decide +kernel) (Nat.le_of_ble_eq_true rfl) rfl 1 rfl fun X hl C Z => ?_
  refine zz_iload_n C d_BT_name_0 rfl rfl ?_
  refine zz_bipush (v := 50) C d_BT_name_1 (by decide) ?_
  refine zz_callSr (e := 0) C hR d_BT_name_3 mk_BT_70 zy_BT_isWithin m_BT_isWithin ⟨by decide, by decide⟩ ⟨Nat.zero_le _, Nat.zero_le _⟩ rfl rfl (Nat.le_of_ble_eq_true rfl) ?_
  refine zz_if_eq (tgt := 23) C d_BT_name_6 (by decide) (fun c_6 => ?_) (fun c_6 => ?_)
  · refine zz_iconst (v := -1) C d_BT_name_23 (by decide) ?_
    refine zz_iret C Z d_BT_name_24 ?_
    exact ⟨by simp [nmF, c_6], rfl, by simpa [nmF, c_6] using hR⟩
  · refine zz_iload_n C d_BT_name_9 rfl rfl ?_
    refine zz_bipush (v := 50) C d_BT_name_10 (by decide) ?_
    refine zz_callSr (e := 0) C hR d_BT_name_12 mk_BT_70 zy_BT_isWithin m_BT_isWithin ⟨by decide, by decide⟩ ⟨Nat.zero_le _, Nat.zero_le _⟩ rfl rfl (Nat.le_of_ble_eq_true rfl) ?_
    refine zz_if_eq (tgt := 23) C d_BT_name_15 (by decide) (fun c_15 => ?_) (fun c_15 => ?_)
    · refine zz_iconst (v := -1) C d_BT_name_23 (by decide) ?_
      refine zz_iret C Z d_BT_name_24 ?_
      exact ⟨by simp [nmF, c_6, c_15], rfl, by simpa [nmF, c_6, c_15] using hR⟩
    · refine zz_iload_n C d_BT_name_18 rfl rfl ?_
      refine zz_iload_n C d_BT_name_19 rfl rfl ?_
      refine zz_icmp_le (tgt := 25) C d_BT_name_20 (by decide) (fun c_20 => ?_) (fun c_20 => ?_)
      · rcases Nat.lt_or_ge n 8 with hl8 | hl8
        · refine zz_aload_n C d_BT_name_25 rfl rfl ?_
          refine zz_get C d_BT_name_26 zf_BT_10 ((hR _).trans rfl) rfl ?_
          refine zz_iload_n C d_BT_name_29 rfl rfl ?_
          refine zz_iload_n C d_BT_name_30 rfl rfl ?_
          refine zz_callVw (e := 0) C hR d_BT_name_31 mk_BT_74 zy_Pb_addName (m_Pb_addName hl8 hN) ⟨by decide, by decide⟩ ⟨Nat.zero_le _, Nat.zero_le _⟩ rfl rfl rfl rfl (Nat.le_of_ble_eq_true rfl) (fun h hR => ?_)
          refine zz_istore_n C d_BT_name_34 rfl (by decide) rfl ?_
          refine zz_iload_n C d_BT_name_35 rfl rfl ?_
          refine zz_bipush (v := -3) C d_BT_name_36 (by decide) ?_
          refine zz_icmp_eq (tgt := 45) C d_BT_name_38 (by decide) (fun c_38 => ?_) (fun c_38 => ?_)
          · exact absurd c_38 (ne_m3 (by omega))
          · refine zz_aload_n C d_BT_name_41 rfl rfl ?_
            refine zz_callVv (e := 1) C hR d_BT_name_42 mk_BT_78 zy_BT_forgetSearch m_BT_forgetSearch ⟨by decide, by decide⟩ ⟨Nat.zero_le _, Nat.zero_le _⟩ rfl rfl rfl rfl (Nat.le_of_ble_eq_true rfl) (fun h hR => ?_)
            refine zz_iload_n C d_BT_name_45 rfl rfl ?_
            refine zz_iret C Z d_BT_name_46 ?_
            exact ⟨by simp [nmF, c_6, c_15, c_20, hl8], rfl, by simpa [nmF, c_6, c_15, c_20, hl8] using hR⟩
        · have e : n = 8 := by omega
          subst e
          refine zz_aload_n C d_BT_name_25 rfl rfl ?_
          refine zz_get C d_BT_name_26 zf_BT_10 ((hR _).trans rfl) rfl ?_
          refine zz_iload_n C d_BT_name_29 rfl rfl ?_
          refine zz_iload_n C d_BT_name_30 rfl rfl ?_
          refine zz_callVr (e := 0) C hR d_BT_name_31 mk_BT_74 zy_Pb_addName (m_Pb_addName_full hN) ⟨by decide, by decide⟩ ⟨Nat.zero_le _, Nat.zero_le _⟩ rfl rfl rfl rfl (Nat.le_of_ble_eq_true rfl) ?_
          refine zz_istore_n C d_BT_name_34 rfl (by decide) rfl ?_
          refine zz_iload_n C d_BT_name_35 rfl rfl ?_
          refine zz_bipush (v := -3) C d_BT_name_36 (by decide) ?_
          refine zz_icmp_eq (tgt := 45) C d_BT_name_38 (by decide) (fun c_38 => ?_) (fun c_38 => ?_)
          · refine zz_iload_n C d_BT_name_45 rfl rfl ?_
            refine zz_iret C Z d_BT_name_46 ?_
            exact ⟨by simp [nmF, c_6, c_15, c_20], rfl, by simpa [nmF, c_6, c_15, c_20] using hR⟩
          · exact absurd rfl c_38
      · refine zz_iconst (v := -1) C d_BT_name_23 (by decide) ?_
        refine zz_iret C Z d_BT_name_24 ?_
        exact ⟨by simp [nmF, c_6, c_15, c_20], rfl, by simpa [nmF, c_6, c_15, c_20] using hR⟩
set_option maxRecDepth 100000 in
set_option maxHeartbeats 4000000 in
theorem m_BT_row {rc : Nat} {x y : Int32} (hn : rc ≤ 16) (hN : μ 1 8 = nI rc) : wMet l y_BT_row b_BT_row 4 (some .int) (zR 2) E [.ref (ad 0), .int x, .int y] ad al μ pa (some (.int (roF rc μ pa x y).1)) (roF rc μ pa x y).2.1 (roF rc μ pa x y).2.2 := by
  intro h hR
  refine zMet.of (L := [some (.ref (ad 0)), some (.int x), some (.int y), none]) (by decide +kernel) (Nat.le_of_ble_eq_true rfl) rfl 1 rfl fun X hl C Z => ?_
  refine zz_iload_n C d_BT_row_0 rfl rfl ?_
  refine zz_if_lt (tgt := 19) C d_BT_row_1 (by decide) (fun c_1 => ?_) (fun c_1 => ?_)
  · refine zz_iconst (v := -1) C d_BT_row_19 (by decide) ?_
    refine zz_iret C Z d_BT_row_20 ?_
    exact ⟨by simp [roF, c_1], rfl, by simpa [roF, c_1] using hR⟩
  · refine zz_iload_n C d_BT_row_4 rfl rfl ?_
    refine zz_iconst (v := 2) C d_BT_row_5 (by decide) ?_
    refine zz_icmp_gt (tgt := 19) C d_BT_row_6 (by decide) (fun c_6 => ?_) (fun c_6 => ?_)
    · refine zz_iconst (v := -1) C d_BT_row_19 (by decide) ?_
      refine zz_iret C Z d_BT_row_20 ?_
      exact ⟨by simp [roF, c_1, c_6], rfl, by simpa [roF, c_1, c_6] using hR⟩
    · refine zz_iload_n C d_BT_row_9 rfl rfl ?_
      refine zz_sipush (v := 1000) C d_BT_row_10 (by decide) ?_
      refine zz_callSr (e := 0) C hR d_BT_row_13 mk_BT_70 zy_BT_isWithin m_BT_isWithin ⟨by decide, by decide⟩ ⟨Nat.zero_le _, Nat.zero_le _⟩ rfl rfl (Nat.le_of_ble_eq_true rfl) ?_
      refine zz_if_ne (tgt := 21) C d_BT_row_16 (by decide) (fun c_16 => ?_) (fun c_16 => ?_)
      · rcases Nat.lt_or_ge rc 16 with hl8 | hl8
        · refine zz_aload_n C d_BT_row_21 rfl rfl ?_
          refine zz_get C d_BT_row_22 zf_BT_10 ((hR _).trans rfl) rfl ?_
          refine zz_iload_n C d_BT_row_25 rfl rfl ?_
          refine zz_iload_n C d_BT_row_26 rfl rfl ?_
          refine zz_callVw (e := 0) C hR d_BT_row_27 mk_BT_81 zy_Pb_addRow (m_Pb_addRow hl8 hN) ⟨by decide, by decide⟩ ⟨Nat.zero_le _, Nat.zero_le _⟩ rfl rfl rfl rfl (Nat.le_of_ble_eq_true rfl) (fun h hR => ?_)
          refine zz_istore_n C d_BT_row_30 rfl (by decide) rfl ?_
          refine zz_iload_n C d_BT_row_31 rfl rfl ?_
          refine zz_bipush (v := -3) C d_BT_row_32 (by decide) ?_
          refine zz_icmp_eq (tgt := 41) C d_BT_row_34 (by decide) (fun c_34 => ?_) (fun c_34 => ?_)
          · exact absurd c_34 (ne_m3 (by omega))
          · refine zz_aload_n C d_BT_row_37 rfl rfl ?_
            refine zz_callVv (e := 1) C hR d_BT_row_38 mk_BT_78 zy_BT_forgetSearch m_BT_forgetSearch ⟨by decide, by decide⟩ ⟨Nat.zero_le _, Nat.zero_le _⟩ rfl rfl rfl rfl (Nat.le_of_ble_eq_true rfl) (fun h hR => ?_)
            refine zz_iload_n C d_BT_row_41 rfl rfl ?_
            refine zz_iret C Z d_BT_row_42 ?_
            exact ⟨by simp [roF, c_1, c_6, c_16, hl8], rfl, by simpa [roF, c_1, c_6, c_16, hl8] using hR⟩
        · have e : rc = 16 := by omega
          subst e
          refine zz_aload_n C d_BT_row_21 rfl rfl ?_
          refine zz_get C d_BT_row_22 zf_BT_10 ((hR _).trans rfl) rfl ?_
          refine zz_iload_n C d_BT_row_25 rfl rfl ?_
          refine zz_iload_n C d_BT_row_26 rfl rfl ?_
          refine zz_callVr (e := 0) C hR d_BT_row_27 mk_BT_81 zy_Pb_addRow (m_Pb_addRow_full hN) ⟨by decide, by decide⟩ ⟨Nat.zero_le _, Nat.zero_le _⟩ rfl rfl rfl rfl (Nat.le_of_ble_eq_true rfl) ?_
          refine zz_istore_n C d_BT_row_30 rfl (by decide) rfl ?_
          refine zz_iload_n C d_BT_row_31 rfl rfl ?_
          refine zz_bipush (v := -3) C d_BT_row_32 (by decide) ?_
          refine zz_icmp_eq (tgt := 41) C d_BT_row_34 (by decide) (fun c_34 => ?_) (fun c_34 => ?_)
          · refine zz_iload_n C d_BT_row_41 rfl rfl ?_
            refine zz_iret C Z d_BT_row_42 ?_
            exact ⟨by simp [roF, c_1, c_6, c_16], rfl, by simpa [roF, c_1, c_6, c_16] using hR⟩
          · exact absurd rfl c_34
      · refine zz_iconst (v := -1) C d_BT_row_19 (by decide) ?_
        refine zz_iret C Z d_BT_row_20 ?_
        exact ⟨by simp [roF, c_1, c_6, c_16], rfl, by simpa [roF, c_1, c_6, c_16] using hR⟩
set_option maxRecDepth 100000 in
set_option maxHeartbeats 4000000 in
theorem m_BT_factor {n rc : Nat} {x y f : Int32} (hn : n ≤ 8) (hN : μ 1 7 = nI n) (hrc : rc ≤ 16) (hM : μ 1 8 = nI rc) : wMet l y_BT_factor b_BT_factor 5 (some .int) (zR 2) E [.ref (ad 0), .int x, .int y, .int f] ad al μ pa (some (.int (faF μ pa x y f).1)) (faF μ pa x y f).2.1 (faF μ pa x y f).2.2 := by
  intro h hR
  refine zMet.of (L := [some (.ref (ad 0)), some (.int x), some (.int y), some (.int f), none]) (by decide +kernel) (Nat.le_of_ble_eq_true rfl) rfl 1 rfl fun X hl C Z => ?_
  refine zz_aload_n C d_BT_factor_0 rfl rfl ?_
  refine zz_get C d_BT_factor_1 zf_BT_10 ((hR _).trans rfl) rfl ?_
  refine zz_iload_n C d_BT_factor_4 rfl rfl ?_
  refine zz_callVr (e := 0) C hR d_BT_factor_5 mk_BT_84 zy_Pb_hasRow m_Pb_hasRow ⟨by decide, by decide⟩ ⟨Nat.zero_le _, Nat.zero_le _⟩ rfl rfl rfl rfl (Nat.le_of_ble_eq_true rfl) ?_
  refine zz_if_eq (tgt := 31) C d_BT_factor_8 (by decide) (fun c_8 => ?_) (fun c_8 => ?_)
  · refine zz_sipush (v := -1000) C d_BT_factor_31 (by decide) ?_
    refine zz_iret C Z d_BT_factor_34 ?_
    exact ⟨by simp [faF, c_8], rfl, by simpa [faF, c_8] using hR⟩
  · refine zz_aload_n C d_BT_factor_11 rfl rfl ?_
    refine zz_get C d_BT_factor_12 zf_BT_10 ((hR _).trans rfl) rfl ?_
    refine zz_iload_n C d_BT_factor_15 rfl rfl ?_
    refine zz_callVr (e := 0) C hR d_BT_factor_16 mk_BT_88 zy_Pb_hasName m_Pb_hasName ⟨by decide, by decide⟩ ⟨Nat.zero_le _, Nat.zero_le _⟩ rfl rfl rfl rfl (Nat.le_of_ble_eq_true rfl) ?_
    refine zz_if_eq (tgt := 31) C d_BT_factor_19 (by decide) (fun c_19 => ?_) (fun c_19 => ?_)
    · refine zz_sipush (v := -1000) C d_BT_factor_31 (by decide) ?_
      refine zz_iret C Z d_BT_factor_34 ?_
      exact ⟨by simp [faF, c_8, c_19], rfl, by simpa [faF, c_8, c_19] using hR⟩
    · refine zz_iload_n C d_BT_factor_22 rfl rfl ?_
      refine zz_bipush (v := 20) C d_BT_factor_23 (by decide) ?_
      refine zz_callSr (e := 0) C hR d_BT_factor_25 mk_BT_70 zy_BT_isWithin m_BT_isWithin ⟨by decide, by decide⟩ ⟨Nat.zero_le _, Nat.zero_le _⟩ rfl rfl (Nat.le_of_ble_eq_true rfl) ?_
      refine zz_if_ne (tgt := 35) C d_BT_factor_28 (by decide) (fun c_28 => ?_) (fun c_28 => ?_)
      · obtain ⟨r, hr, hx⟩ := hasN_ok (by rw [hM] at c_8; exact c_8) (show rc < 2 ^ 31 by omega)
        obtain ⟨a, ha, hy⟩ := hasN_ok (by rw [hN] at c_19; exact c_19) (show n < 2 ^ 31 by omega)
        subst hx
        subst hy
        have hr16 : r < 16 := by omega
        have er : (nI r).toNatClampNeg = r := nI_clamp (by omega)
        have ea : (nI a).toNatClampNeg = a := nI_clamp (by omega)
        refine zz_aload_n C d_BT_factor_35 rfl rfl ?_
        refine zz_get C d_BT_factor_36 zf_BT_10 ((hR _).trans rfl) rfl ?_
        refine zz_get C d_BT_factor_39 zf_BT_91 ((hR _).trans rfl) rfl ?_
        refine zz_iload_n C d_BT_factor_42 rfl rfl ?_
        refine zz_rowR (r := r) C hR d_BT_factor_43 rfl hr16 ?_
        refine zz_iload_n C d_BT_factor_44 rfl rfl ?_
        refine zz_ialdR (j := a) C hR d_BT_factor_45 (zb_row E ad al hr16) rfl (by omega) (by decide) ?_
        refine zz_istore C d_BT_factor_46 (by decide) rfl ?_
        refine zz_aload_n C d_BT_factor_48 rfl rfl ?_
        refine zz_get C d_BT_factor_49 zf_BT_10 ((hR _).trans rfl) rfl ?_
        refine zz_get C d_BT_factor_52 zf_BT_91 ((hR _).trans rfl) rfl ?_
        refine zz_iload_n C d_BT_factor_55 rfl rfl ?_
        refine zz_rowR (r := r) C hR d_BT_factor_56 rfl hr16 ?_
        refine zz_iload_n C d_BT_factor_57 rfl rfl ?_
        refine zz_iload_n C d_BT_factor_58 rfl rfl ?_
        refine zz_iastR (j := a) C hR d_BT_factor_59 (zb_row E ad al hr16) rfl (by omega) (by decide) (fun h hR => ?_)
        refine zz_aload_n C d_BT_factor_60 rfl rfl ?_
        refine zz_callVv (e := 1) C hR d_BT_factor_61 mk_BT_78 zy_BT_forgetSearch m_BT_forgetSearch ⟨by decide, by decide⟩ ⟨Nat.zero_le _, Nat.zero_le _⟩ rfl rfl rfl rfl (Nat.le_of_ble_eq_true rfl) (fun h hR => ?_)
        refine zz_iload C d_BT_factor_64 rfl ?_
        refine zz_iret C Z d_BT_factor_66 ?_
        exact ⟨by simp [faF, c_8, c_19, c_28, er, ea], rfl, by simpa [faF, c_8, c_19, c_28, er, ea] using hR⟩
      · refine zz_sipush (v := -1000) C d_BT_factor_31 (by decide) ?_
        refine zz_iret C Z d_BT_factor_34 ?_
        exact ⟨by simp [faF, c_8, c_19, c_28], rfl, by simpa [faF, c_8, c_19, c_28] using hR⟩
set_option maxRecDepth 100000 in
set_option maxHeartbeats 4000000 in
theorem m_BT_cost {n : Nat} {x f : Int32} (hn : n ≤ 8) (hN : μ 1 7 = nI n) : wMet l y_BT_cost b_BT_cost 4 (some .int) (zR 2) E [.ref (ad 0), .int x, .int f] ad al μ pa (some (.int (coM μ pa x f).1)) (coM μ pa x f).2.1 (coM μ pa x f).2.2 := by
  intro h hR
  refine zMet.of (L := [some (.ref (ad 0)), some (.int x), some (.int f), none]) (by decide +kernel) (Nat.le_of_ble_eq_true rfl) rfl 1 rfl fun X hl C Z => ?_
  refine zz_aload_n C d_BT_cost_0 rfl rfl ?_
  refine zz_get C d_BT_cost_1 zf_BT_10 ((hR _).trans rfl) rfl ?_
  refine zz_iload_n C d_BT_cost_4 rfl rfl ?_
  refine zz_callVr (e := 0) C hR d_BT_cost_5 mk_BT_88 zy_Pb_hasName m_Pb_hasName ⟨by decide, by decide⟩ ⟨Nat.zero_le _, Nat.zero_le _⟩ rfl rfl rfl rfl (Nat.le_of_ble_eq_true rfl) ?_
  refine zz_if_eq (tgt := 20) C d_BT_cost_8 (by decide) (fun c_8 => ?_) (fun c_8 => ?_)
  · refine zz_sipush (v := -1000) C d_BT_cost_20 (by decide) ?_
    refine zz_iret C Z d_BT_cost_23 ?_
    exact ⟨by simp [coM, c_8], rfl, by simpa [coM, c_8] using hR⟩
  · refine zz_iload_n C d_BT_cost_11 rfl rfl ?_
    refine zz_bipush (v := 20) C d_BT_cost_12 (by decide) ?_
    refine zz_callSr (e := 0) C hR d_BT_cost_14 mk_BT_70 zy_BT_isWithin m_BT_isWithin ⟨by decide, by decide⟩ ⟨Nat.zero_le _, Nat.zero_le _⟩ rfl rfl (Nat.le_of_ble_eq_true rfl) ?_
    refine zz_if_ne (tgt := 24) C d_BT_cost_17 (by decide) (fun c_17 => ?_) (fun c_17 => ?_)
    · obtain ⟨a, ha, hy⟩ := hasN_ok (by rw [hN] at c_8; exact c_8) (show n < 2 ^ 31 by omega)
      subst hy
      have ea : (nI a).toNatClampNeg = a := nI_clamp (by omega)
      refine zz_aload_n C d_BT_cost_24 rfl rfl ?_
      refine zz_get C d_BT_cost_25 zf_BT_10 ((hR _).trans rfl) rfl ?_
      refine zz_get C d_BT_cost_28 zf_BT_95 ((hR _).trans rfl) rfl ?_
      refine zz_iload_n C d_BT_cost_31 rfl rfl ?_
      refine zz_ialdR (j := a) C hR d_BT_cost_32 (fun _ _ => rfl) rfl (by omega) (by decide) ?_
      refine zz_istore_n C d_BT_cost_33 rfl (by decide) rfl ?_
      refine zz_aload_n C d_BT_cost_34 rfl rfl ?_
      refine zz_get C d_BT_cost_35 zf_BT_10 ((hR _).trans rfl) rfl ?_
      refine zz_get C d_BT_cost_38 zf_BT_95 ((hR _).trans rfl) rfl ?_
      refine zz_iload_n C d_BT_cost_41 rfl rfl ?_
      refine zz_iload_n C d_BT_cost_42 rfl rfl ?_
      refine zz_iastR (j := a) C hR d_BT_cost_43 (fun _ _ => rfl) rfl (by omega) (by decide) (fun h hR => ?_)
      refine zz_aload_n C d_BT_cost_44 rfl rfl ?_
      refine zz_callVv (e := 1) C hR d_BT_cost_45 mk_BT_78 zy_BT_forgetSearch m_BT_forgetSearch ⟨by decide, by decide⟩ ⟨Nat.zero_le _, Nat.zero_le _⟩ rfl rfl rfl rfl (Nat.le_of_ble_eq_true rfl) (fun h hR => ?_)
      refine zz_iload_n C d_BT_cost_48 rfl rfl ?_
      refine zz_iret C Z d_BT_cost_49 ?_
      exact ⟨by simp [coM, c_8, c_17, ea], rfl, by simpa [coM, c_8, c_17, ea] using hR⟩
    · refine zz_sipush (v := -1000) C d_BT_cost_20 (by decide) ?_
      refine zz_iret C Z d_BT_cost_23 ?_
      exact ⟨by simp [coM, c_8, c_17], rfl, by simpa [coM, c_8, c_17] using hR⟩
set_option maxRecDepth 100000 in
set_option maxHeartbeats 4000000 in
theorem m_BT_start {n : Nat} {x f : Int32} (hn : n ≤ 8) (hN : μ 1 7 = nI n) : wMet l y_BT_start b_BT_start 4 (some .int) (zR 2) E [.ref (ad 0), .int x, .int f] ad al μ pa (some (.int (saF μ pa x f).1)) (saF μ pa x f).2.1 (saF μ pa x f).2.2 := by
  intro h hR
  refine zMet.of (L := [some (.ref (ad 0)), some (.int x), some (.int f), none]) (by decide +kernel) (Nat.le_of_ble_eq_true rfl) rfl 1 rfl fun X hl C Z => ?_
  refine zz_aload_n C d_BT_start_0 rfl rfl ?_
  refine zz_get C d_BT_start_1 zf_BT_10 ((hR _).trans rfl) rfl ?_
  refine zz_iload_n C d_BT_start_4 rfl rfl ?_
  refine zz_callVr (e := 0) C hR d_BT_start_5 mk_BT_88 zy_Pb_hasName m_Pb_hasName ⟨by decide, by decide⟩ ⟨Nat.zero_le _, Nat.zero_le _⟩ rfl rfl rfl rfl (Nat.le_of_ble_eq_true rfl) ?_
  refine zz_if_eq (tgt := 20) C d_BT_start_8 (by decide) (fun c_8 => ?_) (fun c_8 => ?_)
  · refine zz_sipush (v := -1000) C d_BT_start_20 (by decide) ?_
    refine zz_iret C Z d_BT_start_23 ?_
    exact ⟨by simp [saF, c_8], rfl, by simpa [saF, c_8] using hR⟩
  · refine zz_iload_n C d_BT_start_11 rfl rfl ?_
    refine zz_bipush (v := 50) C d_BT_start_12 (by decide) ?_
    refine zz_callSr (e := 0) C hR d_BT_start_14 mk_BT_70 zy_BT_isWithin m_BT_isWithin ⟨by decide, by decide⟩ ⟨Nat.zero_le _, Nat.zero_le _⟩ rfl rfl (Nat.le_of_ble_eq_true rfl) ?_
    refine zz_if_ne (tgt := 24) C d_BT_start_17 (by decide) (fun c_17 => ?_) (fun c_17 => ?_)
    · obtain ⟨a, ha, hy⟩ := hasN_ok (by rw [hN] at c_8; exact c_8) (show n < 2 ^ 31 by omega)
      subst hy
      have ea : (nI a).toNatClampNeg = a := nI_clamp (by omega)
      refine zz_aload_n C d_BT_start_24 rfl rfl ?_
      refine zz_get C d_BT_start_25 zf_BT_44 ((hR _).trans rfl) rfl ?_
      refine zz_iload_n C d_BT_start_28 rfl rfl ?_
      refine zz_ialdR (j := a) C hR d_BT_start_29 (fun _ _ => rfl) rfl (by omega) (by decide) ?_
      refine zz_istore_n C d_BT_start_30 rfl (by decide) rfl ?_
      refine zz_aload_n C d_BT_start_31 rfl rfl ?_
      refine zz_get C d_BT_start_32 zf_BT_44 ((hR _).trans rfl) rfl ?_
      refine zz_iload_n C d_BT_start_35 rfl rfl ?_
      refine zz_iload_n C d_BT_start_36 rfl rfl ?_
      refine zz_iastR (j := a) C hR d_BT_start_37 (fun _ _ => rfl) rfl (by omega) (by decide) (fun h hR => ?_)
      refine zz_iload_n C d_BT_start_38 rfl rfl ?_
      refine zz_iret C Z d_BT_start_39 ?_
      exact ⟨by simp [saF, c_8, c_17, ea], rfl, by simpa [saF, c_8, c_17, ea] using hR⟩
    · refine zz_sipush (v := -1000) C d_BT_start_20 (by decide) ?_
      refine zz_iret C Z d_BT_start_23 ?_
      exact ⟨by simp [saF, c_8, c_17], rfl, by simpa [saF, c_8, c_17] using hR⟩
set_option maxRecDepth 100000 in
set_option maxHeartbeats 4000000 in
theorem m_BT_alike {n rc : Nat} (hn : n ≤ 8) (hN : μ 1 7 = nI n) (hrc : rc ≤ 16) (hM : μ 1 8 = nI rc) {x y : Int32} : rMet l y_BT_alike b_BT_alike 3 (some .int) (zR 3) E [.ref (ad 0), .int x, .int y] ad al μ pa (.int (alF n rc μ x y)) := by
  intro h hR
  refine zMet.of (L := [some (.ref (ad 0)), some (.int x), some (.int y)]) (by decide +kernel) (Nat.le_of_ble_eq_true rfl) rfl 0 rfl fun X hl C Z => ?_
  refine zz_aload_n C d_BT_alike_0 rfl rfl ?_
  refine zz_get C d_BT_alike_1 zf_BT_10 ((hR _).trans rfl) rfl ?_
  refine zz_iload_n C d_BT_alike_4 rfl rfl ?_
  refine zz_callVr (e := 0) C hR d_BT_alike_5 mk_BT_88 zy_Pb_hasName m_Pb_hasName ⟨by decide, by decide⟩ ⟨Nat.zero_le _, Nat.zero_le _⟩ rfl rfl rfl rfl (Nat.le_of_ble_eq_true rfl) ?_
  refine zz_if_eq (tgt := 22) C d_BT_alike_8 (by decide) (fun c_8 => ?_) (fun c_8 => ?_)
  · refine zz_iconst (v := -1) C d_BT_alike_22 (by decide) ?_
    refine zz_iret C Z d_BT_alike_23 ?_
    exact ⟨by simp [alF, c_8], rfl, rfl⟩
  · refine zz_aload_n C d_BT_alike_11 rfl rfl ?_
    refine zz_get C d_BT_alike_12 zf_BT_10 ((hR _).trans rfl) rfl ?_
    refine zz_iload_n C d_BT_alike_15 rfl rfl ?_
    refine zz_callVr (e := 0) C hR d_BT_alike_16 mk_BT_88 zy_Pb_hasName m_Pb_hasName ⟨by decide, by decide⟩ ⟨Nat.zero_le _, Nat.zero_le _⟩ rfl rfl rfl rfl (Nat.le_of_ble_eq_true rfl) ?_
    refine zz_if_ne (tgt := 24) C d_BT_alike_19 (by decide) (fun c_19 => ?_) (fun c_19 => ?_)
    · obtain ⟨a, ha, hx⟩ := hasN_ok (by rw [hN] at c_8; exact c_8) (show n < 2 ^ 31 by omega)
      obtain ⟨b, hb, hy⟩ := hasN_ok (by rw [hN] at c_19; exact c_19) (show n < 2 ^ 31 by omega)
      subst hx
      subst hy
      have ea : (nI a).toNatClampNeg = a := nI_clamp (by omega)
      have eb : (nI b).toNatClampNeg = b := nI_clamp (by omega)
      refine zz_aload_n C d_BT_alike_24 rfl rfl ?_
      refine zz_get C d_BT_alike_25 zf_BT_10 ((hR _).trans rfl) rfl ?_
      refine zz_iload_n C d_BT_alike_28 rfl rfl ?_
      refine zz_iload_n C d_BT_alike_29 rfl rfl ?_
      refine zz_callVr (e := 2) C hR d_BT_alike_30 mk_BT_98 zy_Pb_canSwap (m_Pb_canSwap hn hN hrc hM ha hb) ⟨by decide, by decide⟩ ⟨Nat.zero_le _, Nat.zero_le _⟩ rfl rfl rfl rfl (Nat.le_of_ble_eq_true rfl) ?_
      refine zz_if_eq (tgt := 40) C d_BT_alike_33 (by decide) (fun c_33 => ?_) (fun c_33 => ?_)
      · refine zz_iconst (v := 0) C d_BT_alike_40 (by decide) ?_
        refine zz_iret C Z d_BT_alike_41 ?_
        exact ⟨by simp [alF, c_8, c_19, c_33, ea, eb], rfl, rfl⟩
      · refine zz_iconst (v := 1) C d_BT_alike_36 (by decide) ?_
        refine zz_goto (tgt := 41) C d_BT_alike_37 (by decide) ?_
        refine zz_iret C Z d_BT_alike_41 ?_
        exact ⟨by simp [alF, c_8, c_19, c_33, ea, eb], rfl, rfl⟩
    · refine zz_iconst (v := -1) C d_BT_alike_22 (by decide) ?_
      refine zz_iret C Z d_BT_alike_23 ?_
      exact ⟨by simp [alF, c_8, c_19], rfl, rfl⟩
set_option maxRecDepth 100000 in
set_option maxHeartbeats 4000000 in
theorem m_BT_order {n rc : Nat} (hn : n ≤ 8) (hN : μ 1 7 = nI n) (hrc : rc ≤ 16) (hM : μ 1 8 = nI rc) : wMet l y_BT_order b_BT_order 2 (some .int) (zR 5) E [.ref (ad 0)] ad al μ pa (some (.int (orF n rc μ pa).1)) (orF n rc μ pa).2.1 (orF n rc μ pa).2.2 := by
  intro h hR
  refine zMet.of (L := [some (.ref (ad 0)), none]) (by decide +kernel) (Nat.le_of_ble_eq_true rfl) rfl 1 rfl fun X hl C Z => ?_
  refine zz_aload_n C d_BT_order_0 rfl rfl ?_
  refine zz_get C d_BT_order_1 zf_BT_10 ((hR _).trans rfl) rfl ?_
  refine zz_get C d_BT_order_4 zf_BT_101 ((hR _).trans rfl) rfl ?_
  refine zz_if_le (tgt := 13) C d_BT_order_7 (by decide) (fun c_7 => ?_) (fun c_7 => ?_)
  · refine zz_aload_n C d_BT_order_13 rfl rfl ?_
    refine zz_get C d_BT_order_14 zf_BT_10 ((hR _).trans rfl) rfl ?_
    refine zz_callVw (e := 4) C hR d_BT_order_17 mk_BT_105 zy_Pb_addOrders (m_Pb_addOrders hn hN hrc hM) ⟨by decide, by decide⟩ ⟨Nat.zero_le _, Nat.zero_le _⟩ rfl rfl rfl rfl (Nat.le_of_ble_eq_true rfl) (fun h hR => ?_)
    refine zz_istore_n C d_BT_order_20 rfl (by decide) rfl ?_
    refine zz_iload_n C d_BT_order_21 rfl rfl ?_
    refine zz_if_le (tgt := 29) C d_BT_order_22 (by decide) (fun c_22 => ?_) (fun c_22 => ?_)
    · refine zz_iload_n C d_BT_order_29 rfl rfl ?_
      refine zz_iret C Z d_BT_order_30 ?_
      exact ⟨by simp [orF, c_7, c_22], rfl, by simpa [orF, c_7, c_22] using hR⟩
    · refine zz_aload_n C d_BT_order_25 rfl rfl ?_
      refine zz_callVv (e := 1) C hR d_BT_order_26 mk_BT_78 zy_BT_forgetSearch m_BT_forgetSearch ⟨by decide, by decide⟩ ⟨Nat.zero_le _, Nat.zero_le _⟩ rfl rfl rfl rfl (Nat.le_of_ble_eq_true rfl) (fun h hR => ?_)
      refine zz_iload_n C d_BT_order_29 rfl rfl ?_
      refine zz_iret C Z d_BT_order_30 ?_
      exact ⟨by simp [orF, c_7, c_22], rfl, by simpa [orF, c_7, c_22] using hR⟩
  · refine zz_bipush (v := -2) C d_BT_order_10 (by decide) ?_
    refine zz_iret C Z d_BT_order_12 ?_
    exact ⟨by simp [orF, c_7], rfl, by simpa [orF, c_7] using hR⟩
set_option maxRecDepth 100000 in
set_option maxHeartbeats 4000000 in
theorem m_BT_offer {n rc : Nat} (hn : n ≤ 8) (hN : μ 1 7 = nI n) (hrc : rc ≤ 16) (hM : μ 1 8 = nI rc) : wMet l y_BT_offer b_BT_offer 2 (some .int) (zR 2) E [.ref (ad 0)] ad al μ pa (some (.int (ofF n rc μ pa).1)) (ofF n rc μ pa).2.1 (ofF n rc μ pa).2.2 := by
  intro h hR
  refine zMet.of (L := [some (.ref (ad 0)), none]) (by decide +kernel) (Nat.le_of_ble_eq_true rfl) rfl 1 rfl fun X hl C Z => ?_
  refine zz_aload_n C d_BT_offer_0 rfl rfl ?_
  refine zz_get C d_BT_offer_1 zf_BT_10 ((hR _).trans rfl) rfl ?_
  refine zz_aload_n C d_BT_offer_4 rfl rfl ?_
  refine zz_get C d_BT_offer_5 zf_BT_44 ((hR _).trans rfl) rfl ?_
  refine zz_callVr (e := 1) C hR d_BT_offer_8 mk_BT_109 zy_Pb_isPlan (m_Pb_isPlan (kv := 23) hn hN hrc hM (fun _ _ => rfl)) ⟨by decide, by decide⟩ ⟨Nat.zero_le _, Nat.zero_le _⟩ rfl rfl rfl rfl (Nat.le_of_ble_eq_true rfl) ?_
  refine zz_if_ne (tgt := 16) C d_BT_offer_11 (by decide) (fun c_11 => ?_) (fun c_11 => ?_)
  · refine zz_aload_n C d_BT_offer_16 rfl rfl ?_
    refine zz_get C d_BT_offer_17 zf_BT_10 ((hR _).trans rfl) rfl ?_
    refine zz_aload_n C d_BT_offer_20 rfl rfl ?_
    refine zz_get C d_BT_offer_21 zf_BT_10 ((hR _).trans rfl) rfl ?_
    refine zz_get C d_BT_offer_24 zf_BT_95 ((hR _).trans rfl) rfl ?_
    refine zz_aload_n C d_BT_offer_27 rfl rfl ?_
    refine zz_get C d_BT_offer_28 zf_BT_44 ((hR _).trans rfl) rfl ?_
    refine zz_callVr (e := 0) C hR d_BT_offer_31 mk_BT_113 zy_Pb_sumOf (m_Pb_sumOf (kf := 4) (kv := 23) hn hN (fun _ _ => rfl) (fun _ _ => rfl)) ⟨by decide, by decide⟩ ⟨Nat.zero_le _, Nat.zero_le _⟩ rfl rfl rfl rfl (Nat.le_of_ble_eq_true rfl) ?_
    refine zz_istore_n C d_BT_offer_34 rfl (by decide) rfl ?_
    refine zz_aload_n C d_BT_offer_35 rfl rfl ?_
    refine zz_get C d_BT_offer_36 zf_BT_19 ((hR _).trans rfl) rfl ?_
    refine zz_iload_n C d_BT_offer_39 rfl rfl ?_
    refine zz_callVr (e := 0) C hR d_BT_offer_40 mk_BT_117 zy_Be_isNotAbove m_Be_isNotAbove ⟨by decide, by decide⟩ ⟨Nat.zero_le _, Nat.zero_le _⟩ rfl rfl rfl rfl (Nat.le_of_ble_eq_true rfl) ?_
    refine zz_if_eq (tgt := 48) C d_BT_offer_43 (by decide) (fun c_43 => ?_) (fun c_43 => ?_)
    · refine zz_aload_n C d_BT_offer_48 rfl rfl ?_
      refine zz_get C d_BT_offer_49 zf_BT_19 ((hR _).trans rfl) rfl ?_
      refine zz_aload_n C d_BT_offer_52 rfl rfl ?_
      refine zz_get C d_BT_offer_53 zf_BT_44 ((hR _).trans rfl) rfl ?_
      refine zz_iload_n C d_BT_offer_56 rfl rfl ?_
      refine zz_callVv (e := 0) C hR d_BT_offer_57 mk_BT_120 zy_Be_take (m_Be_take (ka := 23) (fun _ _ => rfl) (by omega)) ⟨by decide, by decide⟩ ⟨Nat.zero_le _, Nat.zero_le _⟩ rfl rfl rfl rfl (Nat.le_of_ble_eq_true rfl) (fun h hR => ?_)
      refine zz_iconst (v := 1) C d_BT_offer_60 (by decide) ?_
      refine zz_iret C Z d_BT_offer_61 ?_
      exact ⟨by simp [ofF, c_11, c_43], rfl, by simpa [ofF, c_11, c_43] using hR⟩
    · refine zz_iconst (v := 0) C d_BT_offer_46 (by decide) ?_
      refine zz_iret C Z d_BT_offer_47 ?_
      exact ⟨by simp [ofF, c_11, c_43], rfl, by simpa [ofF, c_11, c_43] using hR⟩
  · refine zz_iconst (v := 0) C d_BT_offer_14 (by decide) ?_
    refine zz_iret C Z d_BT_offer_15 ?_
    exact ⟨by simp [ofF, c_11], rfl, by simpa [ofF, c_11] using hR⟩
set_option maxRecDepth 100000 in
set_option maxHeartbeats 4000000 in
theorem m_BT_restart : wMet l y_BT_restart b_BT_restart 2 (some .int) (zR 1) E [.ref (ad 0)] ad al μ pa (some (.int (μ 14 1))) (va_up μ 14 (upd (upd (μ 14) 1 0) 2 0)) pa := by
  intro h hR
  refine zMet.of (L := [some (.ref (ad 0)), none]) (by decide +kernel) (Nat.le_of_ble_eq_true rfl) rfl 1 rfl fun X hl C Z => ?_
  refine zz_aload_n C d_BT_restart_0 rfl rfl ?_
  refine zz_get C d_BT_restart_1 zf_BT_33 ((hR _).trans rfl) rfl ?_
  refine zz_get C d_BT_restart_4 zf_BT_127 ((hR _).trans rfl) rfl ?_
  refine zz_istore_n C d_BT_restart_7 rfl (by decide) rfl ?_
  refine zz_aload_n C d_BT_restart_8 rfl rfl ?_
  refine zz_get C d_BT_restart_9 zf_BT_33 ((hR _).trans rfl) rfl ?_
  refine zz_callVv (e := 0) C hR d_BT_restart_12 mk_BT_149 zy_Tr_fell m_Tr_fell ⟨by decide, by decide⟩ ⟨Nat.zero_le _, Nat.zero_le _⟩ rfl rfl rfl rfl (Nat.le_of_ble_eq_true rfl) (fun h hR => ?_)
  refine zz_iload_n C d_BT_restart_15 rfl rfl ?_
  refine zz_iret C Z d_BT_restart_16 ?_
  exact ⟨rfl, rfl, hR⟩
set_option maxRecDepth 100000 in
set_option maxHeartbeats 4000000 in
theorem m_BT_best {n : Nat} {x : Int32} (hn : n ≤ 8) (hN : μ 1 7 = nI n) : rMet l y_BT_best b_BT_best 2 (some .int) (zR 1) E [.ref (ad 0), .int x] ad al μ pa (.int (beF μ x)) := by
  intro h hR
  refine zMet.of (L := [some (.ref (ad 0)), some (.int x)]) (by decide +kernel) (Nat.le_of_ble_eq_true rfl) rfl 0 rfl fun X hl C Z => ?_
  refine zz_aload_n C d_BT_best_0 rfl rfl ?_
  refine zz_get C d_BT_best_1 zf_BT_19 ((hR _).trans rfl) rfl ?_
  refine zz_get C d_BT_best_4 zf_BT_145 ((hR _).trans rfl) rfl ?_
  refine zz_if_eq (tgt := 23) C d_BT_best_7 (by decide) (fun c_7 => ?_) (fun c_7 => ?_)
  · refine zz_aload_n C d_BT_best_23 rfl rfl ?_
    refine zz_get C d_BT_best_24 zf_BT_19 ((hR _).trans rfl) rfl ?_
    refine zz_get C d_BT_best_27 zf_BT_145 ((hR _).trans rfl) rfl ?_
    refine zz_if_eq (tgt := 44) C d_BT_best_30 (by decide) (fun c_30 => ?_) (fun c_30 => ?_)
    · refine zz_ldc C _ d_BT_best_44 co_BT_155 ?_
      refine zz_iret C Z d_BT_best_46 ?_
      exact ⟨by simp [beF, c_7, c_30], rfl, rfl⟩
    · refine zz_aload_n C d_BT_best_33 rfl rfl ?_
      refine zz_get C d_BT_best_34 zf_BT_10 ((hR _).trans rfl) rfl ?_
      refine zz_iload_n C d_BT_best_37 rfl rfl ?_
      refine zz_callVr (e := 0) C hR d_BT_best_38 mk_BT_88 zy_Pb_hasName m_Pb_hasName ⟨by decide, by decide⟩ ⟨Nat.zero_le _, Nat.zero_le _⟩ rfl rfl rfl rfl (Nat.le_of_ble_eq_true rfl) ?_
      refine zz_if_ne (tgt := 47) C d_BT_best_41 (by decide) (fun c_41 => ?_) (fun c_41 => ?_)
      · obtain ⟨a, ha, hy⟩ := hasN_ok (by rw [hN] at c_41; exact c_41) (show n < 2 ^ 31 by omega)
        subst hy
        have ea : (nI a).toNatClampNeg = a := nI_clamp (by omega)
        refine zz_aload_n C d_BT_best_47 rfl rfl ?_
        refine zz_get C d_BT_best_48 zf_BT_19 ((hR _).trans rfl) rfl ?_
        refine zz_get C d_BT_best_51 zf_BT_156 ((hR _).trans rfl) rfl ?_
        refine zz_iload_n C d_BT_best_54 rfl rfl ?_
        refine zz_ialdR (j := a) C hR d_BT_best_55 (fun _ _ => rfl) rfl (by omega) (by decide) ?_
        refine zz_iret C Z d_BT_best_56 ?_
        exact ⟨by first | (simp [beF, c_7, c_30, c_41, ea]; done) | simp_all [beF], rfl, rfl⟩
      · refine zz_ldc C _ d_BT_best_44 co_BT_155 ?_
        refine zz_iret C Z d_BT_best_46 ?_
        exact ⟨by simp [beF, c_7, c_30, c_41], rfl, rfl⟩
  · refine zz_iload_n C d_BT_best_10 rfl rfl ?_
    refine zz_iconst (v := -1) C d_BT_best_11 (by decide) ?_
    refine zz_icmp_ne (tgt := 23) C d_BT_best_12 (by decide) (fun c_12 => ?_) (fun c_12 => ?_)
    · refine zz_aload_n C d_BT_best_23 rfl rfl ?_
      refine zz_get C d_BT_best_24 zf_BT_19 ((hR _).trans rfl) rfl ?_
      refine zz_get C d_BT_best_27 zf_BT_145 ((hR _).trans rfl) rfl ?_
      refine zz_if_eq (tgt := 44) C d_BT_best_30 (by decide) (fun c_30 => ?_) (fun c_30 => ?_)
      · refine zz_ldc C _ d_BT_best_44 co_BT_155 ?_
        refine zz_iret C Z d_BT_best_46 ?_
        exact ⟨by simp [beF, c_7, c_12, c_30], rfl, rfl⟩
      · refine zz_aload_n C d_BT_best_33 rfl rfl ?_
        refine zz_get C d_BT_best_34 zf_BT_10 ((hR _).trans rfl) rfl ?_
        refine zz_iload_n C d_BT_best_37 rfl rfl ?_
        refine zz_callVr (e := 0) C hR d_BT_best_38 mk_BT_88 zy_Pb_hasName m_Pb_hasName ⟨by decide, by decide⟩ ⟨Nat.zero_le _, Nat.zero_le _⟩ rfl rfl rfl rfl (Nat.le_of_ble_eq_true rfl) ?_
        refine zz_if_ne (tgt := 47) C d_BT_best_41 (by decide) (fun c_41 => ?_) (fun c_41 => ?_)
        · obtain ⟨a, ha, hy⟩ := hasN_ok (by rw [hN] at c_41; exact c_41) (show n < 2 ^ 31 by omega)
          subst hy
          have ea : (nI a).toNatClampNeg = a := nI_clamp (by omega)
          refine zz_aload_n C d_BT_best_47 rfl rfl ?_
          refine zz_get C d_BT_best_48 zf_BT_19 ((hR _).trans rfl) rfl ?_
          refine zz_get C d_BT_best_51 zf_BT_156 ((hR _).trans rfl) rfl ?_
          refine zz_iload_n C d_BT_best_54 rfl rfl ?_
          refine zz_ialdR (j := a) C hR d_BT_best_55 (fun _ _ => rfl) rfl (by omega) (by decide) ?_
          refine zz_iret C Z d_BT_best_56 ?_
          exact ⟨by first | (simp [beF, c_7, c_12, c_30, c_41, ea]; done) | simp_all [beF], rfl, rfl⟩
        · refine zz_ldc C _ d_BT_best_44 co_BT_155 ?_
          refine zz_iret C Z d_BT_best_46 ?_
          exact ⟨by simp [beF, c_7, c_12, c_30, c_41], rfl, rfl⟩
    · refine zz_aload_n C d_BT_best_15 rfl rfl ?_
      refine zz_get C d_BT_best_16 zf_BT_19 ((hR _).trans rfl) rfl ?_
      refine zz_get C d_BT_best_19 zf_BT_152 ((hR _).trans rfl) rfl ?_
      refine zz_iret C Z d_BT_best_22 ?_
      exact ⟨by simp [beF, c_7, c_12], rfl, rfl⟩
set_option maxRecDepth 100000 in
set_option maxHeartbeats 4000000 in
theorem m_BT_bound {sz : Nat} (hS : μ 14 1 = nI sz) (hsz : sz ≤ al) (hal : al ≤ 600) : rMet l y_BT_bound b_BT_bound 1 (some .int) (zR 2) E [.ref (ad 0)] ad al μ pa (.int (boF sz μ)) := by
  intro h hR
  refine zMet.of (L := [some (.ref (ad 0))]) (by decide +kernel) (Nat.le_of_ble_eq_true rfl) rfl 0 rfl fun X hl C Z => ?_
  refine zz_aload_n C d_BT_bound_0 rfl rfl ?_
  refine zz_get C d_BT_bound_1 zf_BT_33 ((hR _).trans rfl) rfl ?_
  refine zz_get C d_BT_bound_4 zf_BT_127 ((hR _).trans rfl) rfl ?_
  refine zz_if_ne (tgt := 13) C d_BT_bound_7 (by decide) (fun c_7 => ?_) (fun c_7 => ?_)
  · refine zz_aload_n C d_BT_bound_13 rfl rfl ?_
    refine zz_get C d_BT_bound_14 zf_BT_33 ((hR _).trans rfl) rfl ?_
    refine zz_aload_n C d_BT_bound_17 rfl rfl ?_
    refine zz_get C d_BT_bound_18 zf_BT_19 ((hR _).trans rfl) rfl ?_
    refine zz_get C d_BT_bound_21 zf_BT_145 ((hR _).trans rfl) rfl ?_
    refine zz_if_eq (tgt := 37) C d_BT_bound_24 (by decide) (fun c_24 => ?_) (fun c_24 => ?_)
    · refine zz_ldc C _ d_BT_bound_37 co_BT_159 ?_
      refine zz_callVr (e := 1) C hR d_BT_bound_39 mk_BT_160 zy_Tr_leastOpen (m_Tr_leastOpen hS hsz hal) ⟨by decide, by decide⟩ ⟨Nat.zero_le _, Nat.zero_le _⟩ rfl rfl rfl rfl (Nat.le_of_ble_eq_true rfl) ?_
      refine zz_iret C Z d_BT_bound_42 ?_
      exact ⟨by simp [boF, c_7, c_24], rfl, rfl⟩
    · refine zz_aload_n C d_BT_bound_27 rfl rfl ?_
      refine zz_get C d_BT_bound_28 zf_BT_19 ((hR _).trans rfl) rfl ?_
      refine zz_get C d_BT_bound_31 zf_BT_152 ((hR _).trans rfl) rfl ?_
      refine zz_goto (tgt := 39) C d_BT_bound_34 (by decide) ?_
      refine zz_callVr (e := 1) C hR d_BT_bound_39 mk_BT_160 zy_Tr_leastOpen (m_Tr_leastOpen hS hsz hal) ⟨by decide, by decide⟩ ⟨Nat.zero_le _, Nat.zero_le _⟩ rfl rfl rfl rfl (Nat.le_of_ble_eq_true rfl) ?_
      refine zz_iret C Z d_BT_bound_42 ?_
      exact ⟨by simp [boF, c_7, c_24], rfl, rfl⟩
  · refine zz_ldc C _ d_BT_bound_10 co_BT_155 ?_
    refine zz_iret C Z d_BT_bound_12 ?_
    exact ⟨by simp [boF, c_7], rfl, rfl⟩
set_option maxRecDepth 100000 in
set_option maxHeartbeats 4000000 in
theorem m_BT_price {n : Nat} {x : Int32} (hn : n ≤ 8) (hN : μ 1 7 = nI n) : rMet l y_BT_price b_BT_price 2 (some .int) (zR 1) E [.ref (ad 0), .int x] ad al μ pa (.int (prF μ pa x)) := by
  intro h hR
  refine zMet.of (L := [some (.ref (ad 0)), some (.int x)]) (by decide +kernel) (Nat.le_of_ble_eq_true rfl) rfl 0 rfl fun X hl C Z => ?_
  refine zz_aload_n C d_BT_price_0 rfl rfl ?_
  refine zz_get C d_BT_price_1 zf_BT_10 ((hR _).trans rfl) rfl ?_
  refine zz_iload_n C d_BT_price_4 rfl rfl ?_
  refine zz_callVr (e := 0) C hR d_BT_price_5 mk_BT_88 zy_Pb_hasName m_Pb_hasName ⟨by decide, by decide⟩ ⟨Nat.zero_le _, Nat.zero_le _⟩ rfl rfl rfl rfl (Nat.le_of_ble_eq_true rfl) ?_
  refine zz_if_eq (tgt := 22) C d_BT_price_8 (by decide) (fun c_8 => ?_) (fun c_8 => ?_)
  · refine zz_iconst (v := -1) C d_BT_price_22 (by decide) ?_
    refine zz_iret C Z d_BT_price_23 ?_
    exact ⟨by simp [prF, c_8], rfl, rfl⟩
  · obtain ⟨a, ha, hy⟩ := hasN_ok (by rw [hN] at c_8; exact c_8) (show n < 2 ^ 31 by omega)
    subst hy
    have ea : (nI a).toNatClampNeg = a := nI_clamp (by omega)
    refine zz_aload_n C d_BT_price_11 rfl rfl ?_
    refine zz_get C d_BT_price_12 zf_BT_26 ((hR _).trans rfl) rfl ?_
    refine zz_iload_n C d_BT_price_15 rfl rfl ?_
    refine zz_callVr (e := 0) C hR d_BT_price_16 mk_BT_207 zy_Pr_priceOf (m_Pr_priceOf (by omega)) ⟨by decide, by decide⟩ ⟨Nat.zero_le _, Nat.zero_le _⟩ rfl rfl rfl rfl (Nat.le_of_ble_eq_true rfl) ?_
    refine zz_goto (tgt := 23) C d_BT_price_19 (by decide) ?_
    refine zz_iret C Z d_BT_price_23 ?_
    exact ⟨by simp [prF, c_8, ea], rfl, rfl⟩
set_option maxRecDepth 100000 in
set_option maxHeartbeats 4000000 in
theorem m_BT_check {sz : Nat} (hS : μ 14 1 = nI sz) (hsz : sz ≤ al) (hal : al ≤ 600) {n rc : Nat} (hn : n ≤ 8) (hN : μ 1 7 = nI n) (hrc : rc ≤ 16) (hM : μ 1 8 = nI rc) : wMet l y_BT_check b_BT_check 1 (some .int) (zR 6) E [.ref (ad 0)] ad al μ pa (some (.int (ckF sz n rc μ pa).1)) (ckF sz n rc μ pa).2.1 (ckF sz n rc μ pa).2.2 := by
  intro h hR
  refine zMet.of (L := [some (.ref (ad 0))]) (by decide +kernel) (Nat.le_of_ble_eq_true rfl) rfl 0 rfl fun X hl C Z => ?_
  refine zz_aload_n C d_BT_check_0 rfl rfl ?_
  refine zz_get C d_BT_check_1 zf_BT_33 ((hR _).trans rfl) rfl ?_
  refine zz_get C d_BT_check_4 zf_BT_127 ((hR _).trans rfl) rfl ?_
  refine zz_if_ne (tgt := 12) C d_BT_check_7 (by decide) (fun c_7 => ?_) (fun c_7 => ?_)
  · refine zz_aload_n C d_BT_check_12 rfl rfl ?_
    refine zz_get C d_BT_check_13 zf_BT_66 ((hR _).trans rfl) rfl ?_
    refine zz_callVw (e := 5) C hR d_BT_check_16 mk_BT_210 zy_Pf_holds (m_Pf_holds hS hsz hal hn hN hrc hM) ⟨by decide, by decide⟩ ⟨Nat.zero_le _, Nat.zero_le _⟩ rfl rfl rfl rfl (Nat.le_of_ble_eq_true rfl) (fun h hR => ?_)
    refine zz_if_eq (tgt := 26) C d_BT_check_19 (by decide) (fun c_19 => ?_) (fun c_19 => ?_)
    · refine zz_iconst (v := 0) C d_BT_check_26 (by decide) ?_
      refine zz_iret C Z d_BT_check_27 ?_
      exact ⟨by simp [ckF, c_7, c_19], rfl, by simpa [ckF, c_7, c_19] using hR⟩
    · refine zz_iconst (v := 1) C d_BT_check_22 (by decide) ?_
      refine zz_goto (tgt := 27) C d_BT_check_23 (by decide) ?_
      refine zz_iret C Z d_BT_check_27 ?_
      exact ⟨by simp [ckF, c_7, c_19], rfl, by simpa [ckF, c_7, c_19] using hR⟩
  · refine zz_iconst (v := -1) C d_BT_check_10 (by decide) ?_
    refine zz_iret C Z d_BT_check_11 ?_
    exact ⟨by simp [ckF, c_7], rfl, by simpa [ckF, c_7] using hR⟩
set_option maxRecDepth 100000 in
set_option maxHeartbeats 4000000 in
theorem m_BT_count {sz : Nat} (hS : μ 14 1 = nI sz) (hsz : sz ≤ al) (hal : al ≤ 600) {x : Int32} : rMet l y_BT_count b_BT_count 2 (some .int) (zR 1) E [.ref (ad 0), .int x] ad al μ pa (.int (ctF sz μ x)) := by
  intro h hR
  refine zMet.of (L := [some (.ref (ad 0)), some (.int x)]) (by decide +kernel) (Nat.le_of_ble_eq_true rfl) rfl 0 rfl fun X hl C Z => ?_
  refine zz_iload_n C d_BT_count_0 rfl rfl ?_
  by_cases e0 : x = 0
  · subst e0
    refine zz_tableIn (tgt := 56) C d_BT_count_1 (by decide) (by decide) (off := 55) rfl (by decide) ?_
    refine zz_aload_n C d_BT_count_56 rfl rfl ?_
    refine zz_get C d_BT_count_57 zf_BT_10 ((hR _).trans rfl) rfl ?_
    refine zz_get C d_BT_count_60 zf_BT_124 ((hR _).trans rfl) rfl ?_
    refine zz_iret C Z d_BT_count_63 ?_
    exact ⟨by simp [ctF], rfl, rfl⟩
  by_cases e1 : x = 1
  · subst e1
    refine zz_tableIn (tgt := 64) C d_BT_count_1 (by decide) (by decide) (off := 63) rfl (by decide) ?_
    refine zz_aload_n C d_BT_count_64 rfl rfl ?_
    refine zz_get C d_BT_count_65 zf_BT_10 ((hR _).trans rfl) rfl ?_
    refine zz_get C d_BT_count_68 zf_BT_214 ((hR _).trans rfl) rfl ?_
    refine zz_iret C Z d_BT_count_71 ?_
    exact ⟨by simp [ctF], rfl, rfl⟩
  by_cases e2 : x = 2
  · subst e2
    refine zz_tableIn (tgt := 72) C d_BT_count_1 (by decide) (by decide) (off := 71) rfl (by decide) ?_
    refine zz_aload_n C d_BT_count_72 rfl rfl ?_
    refine zz_get C d_BT_count_73 zf_BT_10 ((hR _).trans rfl) rfl ?_
    refine zz_get C d_BT_count_76 zf_BT_101 ((hR _).trans rfl) rfl ?_
    refine zz_iret C Z d_BT_count_79 ?_
    exact ⟨by simp [ctF], rfl, rfl⟩
  by_cases e3 : x = 3
  · subst e3
    refine zz_tableIn (tgt := 80) C d_BT_count_1 (by decide) (by decide) (off := 79) rfl (by decide) ?_
    refine zz_aload_n C d_BT_count_80 rfl rfl ?_
    refine zz_get C d_BT_count_81 zf_BT_33 ((hR _).trans rfl) rfl ?_
    refine zz_get C d_BT_count_84 zf_BT_127 ((hR _).trans rfl) rfl ?_
    refine zz_iret C Z d_BT_count_87 ?_
    exact ⟨by simp [ctF], rfl, rfl⟩
  by_cases e4 : x = 4
  · subst e4
    refine zz_tableIn (tgt := 88) C d_BT_count_1 (by decide) (by decide) (off := 87) rfl (by decide) ?_
    refine zz_aload_n C d_BT_count_88 rfl rfl ?_
    refine zz_get C d_BT_count_89 zf_BT_33 ((hR _).trans rfl) rfl ?_
    refine zz_iconst (v := 0) C d_BT_count_92 (by decide) ?_
    refine zz_callVr (e := 0) C hR d_BT_count_93 mk_BT_141 zy_Tr_countOf (m_Tr_countOf hS hsz hal) ⟨by decide, by decide⟩ ⟨Nat.zero_le _, Nat.zero_le _⟩ rfl rfl rfl rfl (Nat.le_of_ble_eq_true rfl) ?_
    refine zz_iret C Z d_BT_count_96 ?_
    exact ⟨by simp [ctF], rfl, rfl⟩
  by_cases e5 : x = 5
  · subst e5
    refine zz_tableIn (tgt := 97) C d_BT_count_1 (by decide) (by decide) (off := 96) rfl (by decide) ?_
    refine zz_aload_n C d_BT_count_97 rfl rfl ?_
    refine zz_get C d_BT_count_98 zf_BT_33 ((hR _).trans rfl) rfl ?_
    refine zz_get C d_BT_count_101 zf_BT_217 ((hR _).trans rfl) rfl ?_
    refine zz_iret C Z d_BT_count_104 ?_
    exact ⟨by simp [ctF], rfl, rfl⟩
  by_cases e6 : x = 6
  · subst e6
    refine zz_tableIn (tgt := 105) C d_BT_count_1 (by decide) (by decide) (off := 104) rfl (by decide) ?_
    refine zz_aload_n C d_BT_count_105 rfl rfl ?_
    refine zz_get C d_BT_count_106 zf_BT_19 ((hR _).trans rfl) rfl ?_
    refine zz_get C d_BT_count_109 zf_BT_145 ((hR _).trans rfl) rfl ?_
    refine zz_if_eq (tgt := 119) C d_BT_count_112 (by decide) (fun c_112 => ?_) (fun c_112 => ?_)
    · refine zz_iconst (v := 0) C d_BT_count_119 (by decide) ?_
      refine zz_iret C Z d_BT_count_120 ?_
      exact ⟨by simp [ctF, c_112], rfl, rfl⟩
    · refine zz_iconst (v := 1) C d_BT_count_115 (by decide) ?_
      refine zz_goto (tgt := 120) C d_BT_count_116 (by decide) ?_
      refine zz_iret C Z d_BT_count_120 ?_
      exact ⟨by simp [ctF, c_112], rfl, rfl⟩
  by_cases e7 : x = 7
  · subst e7
    refine zz_tableIn (tgt := 121) C d_BT_count_1 (by decide) (by decide) (off := 120) rfl (by decide) ?_
    refine zz_aload_n C d_BT_count_121 rfl rfl ?_
    refine zz_get C d_BT_count_122 zf_BT_33 ((hR _).trans rfl) rfl ?_
    refine zz_iconst (v := 2) C d_BT_count_125 (by decide) ?_
    refine zz_callVr (e := 0) C hR d_BT_count_126 mk_BT_141 zy_Tr_countOf (m_Tr_countOf hS hsz hal) ⟨by decide, by decide⟩ ⟨Nat.zero_le _, Nat.zero_le _⟩ rfl rfl rfl rfl (Nat.le_of_ble_eq_true rfl) ?_
    refine zz_iret C Z d_BT_count_129 ?_
    exact ⟨by simp [ctF], rfl, rfl⟩
  by_cases e8 : x = 8
  · subst e8
    refine zz_tableIn (tgt := 130) C d_BT_count_1 (by decide) (by decide) (off := 129) rfl (by decide) ?_
    refine zz_aload_n C d_BT_count_130 rfl rfl ?_
    refine zz_get C d_BT_count_131 zf_BT_33 ((hR _).trans rfl) rfl ?_
    refine zz_iconst (v := 3) C d_BT_count_134 (by decide) ?_
    refine zz_callVr (e := 0) C hR d_BT_count_135 mk_BT_141 zy_Tr_countOf (m_Tr_countOf hS hsz hal) ⟨by decide, by decide⟩ ⟨Nat.zero_le _, Nat.zero_le _⟩ rfl rfl rfl rfl (Nat.le_of_ble_eq_true rfl) ?_
    refine zz_iret C Z d_BT_count_138 ?_
    exact ⟨by simp [ctF], rfl, rfl⟩
  by_cases e9 : x = 9
  · subst e9
    refine zz_tableIn (tgt := 139) C d_BT_count_1 (by decide) (by decide) (off := 138) rfl (by decide) ?_
    refine zz_aload_n C d_BT_count_139 rfl rfl ?_
    refine zz_get C d_BT_count_140 zf_BT_33 ((hR _).trans rfl) rfl ?_
    refine zz_iconst (v := 4) C d_BT_count_143 (by decide) ?_
    refine zz_callVr (e := 0) C hR d_BT_count_144 mk_BT_141 zy_Tr_countOf (m_Tr_countOf hS hsz hal) ⟨by decide, by decide⟩ ⟨Nat.zero_le _, Nat.zero_le _⟩ rfl rfl rfl rfl (Nat.le_of_ble_eq_true rfl) ?_
    refine zz_iret C Z d_BT_count_147 ?_
    exact ⟨by simp [ctF], rfl, rfl⟩
  refine zz_tableOut (tgt := 148) C d_BT_count_1 (tab09 e0 e1 e2 e3 e4 e5 e6 e7 e8 e9) (by decide) ?_
  refine zz_iconst (v := -1) C d_BT_count_148 (by decide) ?_
  refine zz_iret C Z d_BT_count_149 ?_
  exact ⟨by simp [ctF, e0, e1, e2, e3, e4, e5, e6, e7, e8, e9], rfl, rfl⟩
set_option maxRecDepth 100000 in
set_option maxHeartbeats 4000000 in
theorem m_BT_node {sz : Nat} (hS : μ 14 1 = nI sz) (hsz : sz ≤ al) (hal : al ≤ 600) {x w : Int32} : rMet l y_BT_node b_BT_node 4 (some .int) (zR 1) E [.ref (ad 0), .int x, .int w] ad al μ pa (.int (noF sz μ x w)) := by
  intro h hR
  refine zMet.of (L := [some (.ref (ad 0)), some (.int x), some (.int w), none]) (by decide +kernel) (Nat.le_of_ble_eq_true rfl) rfl 1 rfl fun X hl C Z => ?_
  refine zz_aload_n C d_BT_node_0 rfl rfl ?_
  refine zz_get C d_BT_node_1 zf_BT_33 ((hR _).trans rfl) rfl ?_
  refine zz_iload_n C d_BT_node_4 rfl rfl ?_
  rcases atO_cases x (sz := sz) (by omega) with ⟨hx, ho⟩ | ⟨j, hj, hx, ho⟩
  · refine zz_callVr (e := 0) C hR d_BT_node_5 mk_BT_163 zy_Tr_at (m_Tr_at_no (by rw [hS]; exact hx)) ⟨by decide, by decide⟩ ⟨Nat.zero_le _, Nat.zero_le _⟩ rfl rfl rfl rfl (Nat.le_of_ble_eq_true rfl) ?_
    refine zz_astore_nN C d_BT_node_8 rfl (by decide) rfl ?_
    refine zz_aload_nN C d_BT_node_9 rfl rfl ?_
    refine zz_ifnonnullN C d_BT_node_10 ?_
    refine zz_ldc C _ d_BT_node_13 co_BT_155 ?_
    refine zz_iret C Z d_BT_node_15 ?_
    exact ⟨by simp only [noF, ho], rfl, rfl⟩
  · have hja : j < al := by omega
    subst hx
    refine zz_callVr (e := 0) C hR d_BT_node_5 mk_BT_163 zy_Tr_at (m_Tr_at hS hsz hal hj) ⟨by decide, by decide⟩ ⟨Nat.zero_le _, Nat.zero_le _⟩ rfl rfl rfl rfl (Nat.le_of_ble_eq_true rfl) ?_
    refine zz_astore_n C d_BT_node_8 rfl (by decide) rfl ?_
    refine zz_aload_n C d_BT_node_9 rfl rfl ?_
    refine zz_ifnonnull (tgt := 16) C d_BT_node_10 (by decide) ?_
    refine zz_iload_n C d_BT_node_16 rfl rfl ?_
    by_cases e0 : w = 0
    · subst e0
      refine zz_tableIn (tgt := 68) C d_BT_node_17 (by decide) (by decide) (off := 51) rfl (by decide) ?_
      refine zz_aload_n C d_BT_node_68 rfl rfl ?_
      refine zz_get C d_BT_node_69 zf_BT_166 ((hR _).trans (zb_nd0 E ad hja _ _)) rfl ?_
      refine zz_iret C Z d_BT_node_72 ?_
      exact ⟨by simp [noF, ho], rfl, rfl⟩
    by_cases e1 : w = 1
    · subst e1
      refine zz_tableIn (tgt := 73) C d_BT_node_17 (by decide) (by decide) (off := 56) rfl (by decide) ?_
      refine zz_aload_n C d_BT_node_73 rfl rfl ?_
      refine zz_get C d_BT_node_74 zf_BT_171 ((hR _).trans (zb_nd0 E ad hja _ _)) rfl ?_
      refine zz_iret C Z d_BT_node_77 ?_
      exact ⟨by simp [noF, ho], rfl, rfl⟩
    by_cases e2 : w = 2
    · subst e2
      refine zz_tableIn (tgt := 78) C d_BT_node_17 (by decide) (by decide) (off := 61) rfl (by decide) ?_
      refine zz_aload_n C d_BT_node_78 rfl rfl ?_
      refine zz_get C d_BT_node_79 zf_BT_174 ((hR _).trans (zb_nd0 E ad hja _ _)) rfl ?_
      refine zz_iret C Z d_BT_node_82 ?_
      exact ⟨by simp [noF, ho], rfl, rfl⟩
    by_cases e3 : w = 3
    · subst e3
      refine zz_tableIn (tgt := 83) C d_BT_node_17 (by decide) (by decide) (off := 66) rfl (by decide) ?_
      refine zz_aload_n C d_BT_node_83 rfl rfl ?_
      refine zz_get C d_BT_node_84 zf_BT_177 ((hR _).trans (zb_nd0 E ad hja _ _)) rfl ?_
      refine zz_iret C Z d_BT_node_87 ?_
      exact ⟨by simp [noF, ho], rfl, rfl⟩
    by_cases e4 : w = 4
    · subst e4
      refine zz_tableIn (tgt := 88) C d_BT_node_17 (by decide) (by decide) (off := 71) rfl (by decide) ?_
      refine zz_aload_n C d_BT_node_88 rfl rfl ?_
      refine zz_get C d_BT_node_89 zf_BT_180 ((hR _).trans (zb_nd0 E ad hja _ _)) rfl ?_
      refine zz_iret C Z d_BT_node_92 ?_
      exact ⟨by simp [noF, ho], rfl, rfl⟩
    by_cases e5 : w = 5
    · subst e5
      refine zz_tableIn (tgt := 93) C d_BT_node_17 (by decide) (by decide) (off := 76) rfl (by decide) ?_
      refine zz_aload_n C d_BT_node_93 rfl rfl ?_
      refine zz_get C d_BT_node_94 zf_BT_183 ((hR _).trans (zb_nd0 E ad hja _ _)) rfl ?_
      refine zz_iret C Z d_BT_node_97 ?_
      exact ⟨by simp [noF, ho], rfl, rfl⟩
    by_cases e6 : w = 6
    · subst e6
      refine zz_tableIn (tgt := 98) C d_BT_node_17 (by decide) (by decide) (off := 81) rfl (by decide) ?_
      refine zz_aload_n C d_BT_node_98 rfl rfl ?_
      refine zz_get C d_BT_node_99 zf_BT_186 ((hR _).trans (zb_nd0 E ad hja _ _)) rfl ?_
      refine zz_iret C Z d_BT_node_102 ?_
      exact ⟨by simp [noF, ho], rfl, rfl⟩
    by_cases e7 : w = 7
    · subst e7
      refine zz_tableIn (tgt := 103) C d_BT_node_17 (by decide) (by decide) (off := 86) rfl (by decide) ?_
      refine zz_aload_n C d_BT_node_103 rfl rfl ?_
      refine zz_get C d_BT_node_104 zf_BT_189 ((hR _).trans (zb_nd0 E ad hja _ _)) rfl ?_
      refine zz_iret C Z d_BT_node_107 ?_
      exact ⟨by simp [noF, ho], rfl, rfl⟩
    by_cases e8 : w = 8
    · subst e8
      refine zz_tableIn (tgt := 108) C d_BT_node_17 (by decide) (by decide) (off := 91) rfl (by decide) ?_
      refine zz_aload_n C d_BT_node_108 rfl rfl ?_
      refine zz_get C d_BT_node_109 zf_BT_192 ((hR _).trans (zb_nd0 E ad hja _ _)) rfl ?_
      refine zz_iret C Z d_BT_node_112 ?_
      exact ⟨by simp [noF, ho], rfl, rfl⟩
    refine zz_tableOut (tgt := 113) C d_BT_node_17 (tab08 e0 e1 e2 e3 e4 e5 e6 e7 e8) (by decide) ?_
    refine zz_ldc C _ d_BT_node_113 co_BT_155 ?_
    refine zz_iret C Z d_BT_node_115 ?_
    exact ⟨by simp [noF, ho, e0, e1, e2, e3, e4, e5, e6, e7, e8], rfl, rfl⟩
set_option maxRecDepth 100000 in
set_option maxHeartbeats 4000000 in
theorem m_BT_boundOf {sz : Nat} (hS : μ 14 1 = nI sz) (hsz : sz ≤ al) (hal : al ≤ 600) {n : Nat} {x y w : Int32} (hn : n ≤ 8) (hN : μ 1 7 = nI n) : rMet l y_BT_boundOf b_BT_boundOf 5 (some .int) (zR 1) E [.ref (ad 0), .int x, .int y, .int w] ad al μ pa (.int (bfF sz μ x y w)) := by
  intro h hR
  refine zMet.of (L := [some (.ref (ad 0)), some (.int x), some (.int y), some (.int w), none]) (by decide +kernel) (Nat.le_of_ble_eq_true rfl) rfl 1 rfl fun X hl C Z => ?_
  refine zz_aload_n C d_BT_boundOf_0 rfl rfl ?_
  refine zz_get C d_BT_boundOf_1 zf_BT_33 ((hR _).trans rfl) rfl ?_
  refine zz_iload_n C d_BT_boundOf_4 rfl rfl ?_
  rcases atO_cases x (sz := sz) (by omega) with ⟨hx, ho⟩ | ⟨j, hj, hx, ho⟩
  · refine zz_callVr (e := 0) C hR d_BT_boundOf_5 mk_BT_163 zy_Tr_at (m_Tr_at_no (by rw [hS]; exact hx)) ⟨by decide, by decide⟩ ⟨Nat.zero_le _, Nat.zero_le _⟩ rfl rfl rfl rfl (Nat.le_of_ble_eq_true rfl) ?_
    refine zz_astoreN C d_BT_boundOf_8 (by decide) rfl ?_
    refine zz_aloadN C d_BT_boundOf_10 rfl ?_
    refine zz_ifnullN (tgt := 26) C d_BT_boundOf_12 (by decide) ?_
    refine zz_sipush (v := -1000) C d_BT_boundOf_26 (by decide) ?_
    refine zz_iret C Z d_BT_boundOf_29 ?_
    exact ⟨by simp only [bfF, ho], rfl, rfl⟩
  · have hja : j < al := by omega
    subst hx
    refine zz_callVr (e := 0) C hR d_BT_boundOf_5 mk_BT_163 zy_Tr_at (m_Tr_at hS hsz hal hj) ⟨by decide, by decide⟩ ⟨Nat.zero_le _, Nat.zero_le _⟩ rfl rfl rfl rfl (Nat.le_of_ble_eq_true rfl) ?_
    refine zz_astore C d_BT_boundOf_8 (by decide) rfl ?_
    refine zz_aload C d_BT_boundOf_10 rfl ?_
    refine zz_ifnull C d_BT_boundOf_12 ?_
    refine zz_aload_n C d_BT_boundOf_15 rfl rfl ?_
    refine zz_get C d_BT_boundOf_16 zf_BT_10 ((hR _).trans rfl) rfl ?_
    refine zz_iload_n C d_BT_boundOf_19 rfl rfl ?_
    refine zz_callVr (e := 0) C hR d_BT_boundOf_20 mk_BT_88 zy_Pb_hasName m_Pb_hasName ⟨by decide, by decide⟩ ⟨Nat.zero_le _, Nat.zero_le _⟩ rfl rfl rfl rfl (Nat.le_of_ble_eq_true rfl) ?_
    refine zz_if_ne (tgt := 30) C d_BT_boundOf_23 (by decide) (fun c_23 => ?_) (fun c_23 => ?_)
    · refine zz_iload_n C d_BT_boundOf_30 rfl rfl ?_
      obtain ⟨a, ha, hy⟩ := hasN_ok (by rw [hN] at c_23; exact c_23) (show n < 2 ^ 31 by omega)
      subst hy
      have ea : (nI a).toNatClampNeg = a := nI_clamp (by omega)
      by_cases e0 : w = 0
      · subst e0
        refine zz_lookup (tgt := 56) (off := 25) C d_BT_boundOf_31 (by decide) (by decide) (by decide) ?_
        refine zz_aload C d_BT_boundOf_56 rfl ?_
        refine zz_get C d_BT_boundOf_58 zf_BT_195 ((hR _).trans (zb_nd0 E ad hja _ _)) rfl ?_
        refine zz_get C d_BT_boundOf_61 zf_BT_199 ((hR _).trans (zb_nd1 E ad hja _ _)) rfl ?_
        refine zz_iload_n C d_BT_boundOf_64 rfl rfl ?_
        refine zz_ialdR (j := a) C hR d_BT_boundOf_65 (zb_nd3 E ad hja) rfl (by omega) (by decide) ?_
        refine zz_iret C Z d_BT_boundOf_66 ?_
        exact ⟨by simp [bfF, ho, c_23, ea], rfl, rfl⟩
      by_cases e1 : w = 1
      · subst e1
        refine zz_lookup (tgt := 67) (off := 36) C d_BT_boundOf_31 (by decide) (by decide) (by decide) ?_
        refine zz_aload C d_BT_boundOf_67 rfl ?_
        refine zz_get C d_BT_boundOf_69 zf_BT_195 ((hR _).trans (zb_nd0 E ad hja _ _)) rfl ?_
        refine zz_get C d_BT_boundOf_72 zf_BT_204 ((hR _).trans (zb_nd1 E ad hja _ _)) rfl ?_
        refine zz_iload_n C d_BT_boundOf_75 rfl rfl ?_
        refine zz_ialdR (j := a) C hR d_BT_boundOf_76 (zb_nd2 E ad hja) rfl (by omega) (by decide) ?_
        refine zz_iret C Z d_BT_boundOf_77 ?_
        exact ⟨by simp [bfF, ho, c_23, ea], rfl, rfl⟩
      refine zz_lookup (tgt := 78) (off := 47) C d_BT_boundOf_31 (by decide) (look01 e0 e1) (by decide) ?_
      refine zz_sipush (v := -1000) C d_BT_boundOf_78 (by decide) ?_
      refine zz_iret C Z d_BT_boundOf_81 ?_
      exact ⟨by simp [bfF, ho, c_23, e0, e1], rfl, rfl⟩
    · refine zz_sipush (v := -1000) C d_BT_boundOf_26 (by decide) ?_
      refine zz_iret C Z d_BT_boundOf_29 ?_
      exact ⟨by simp [bfF, ho, c_23], rfl, rfl⟩
end FACE
