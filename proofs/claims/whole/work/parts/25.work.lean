/-! SEARCH.workAt, BRANCHTREES.run -/
theorem coF_spec (lo hi mer : Nat → Int32) : ∀ i : Nat, (coF lo hi mer i).1 = -2 ∨ ∃ q : Nat, q < i ∧ (coF lo hi mer i).1 = nI q
  | 0 => Or.inl rfl
  | i + 1 => by
    have ih := coF_spec lo hi mer i
    simp only [coF]
    by_cases c1 : hi i ≤ lo i
    · rw [if_pos c1]
      rcases ih with h | ⟨q, h1, h2⟩
      · exact Or.inl h
      · exact Or.inr ⟨q, by omega, h2⟩
    · rw [if_neg c1]
      by_cases c2 : (coF lo hi mer i).1 = -2
      · rw [if_pos c2]; exact Or.inr ⟨i, by omega, rfl⟩
      · rw [if_neg c2]
        by_cases c3 : mer i ≤ (coF lo hi mer i).2
        · rw [if_pos c3]
          rcases ih with h | ⟨q, h1, h2⟩
          · exact Or.inl h
          · exact Or.inr ⟨q, by omega, h2⟩
        · rw [if_neg c3]; exact Or.inr ⟨i, by omega, rfl⟩
/-- the chosen NAME of NODE j -/
def chO (μ : Nat → Nat → Int32) (pa : Nat → Nat → Int64) (j n : Nat) : Int32 := (coF (μ (100 + 4 * j + 2)) (μ (100 + 4 * j + 3)) (fun q => meF (μ 22 1) (μ (100 + 4 * j + 2) q) (μ (100 + 4 * j + 3) q) 0 (μ 13 q) (pa 12 q) (μ 4 q)) n).1
def wk1 (m : Nat → Nat → Int32) : Nat → Nat → Int32 := va_up m 14 (upd (m 14) 2 (m 14 2 + 1))
abbrev zQ : Type := Int32 × Nat × (Nat → Nat → Int32) × (Nat → Nat → Int64)
def wkF (μ : Nat → Nat → Int32) (pa : Nat → Nat → Int64) (al sz j n rc : Nat) : zQ :=
  if nabF (μ 9 1) (μ 9 2) (μ (100 + 4 * j) 8) = 0 then
    (if ¬ chO μ pa j n = -2 then
      (if (if 600 < μ 14 1 + 2 then (0 : Int32) else 1) = 0 then (0, al, μ, pa)
       else (1, ptA al sz, wk1 (ptM μ al sz j (chO μ pa j n).toNatClampNeg n rc), ptP pa (chO μ pa j n).toNatClampNeg (ptG μ al sz j (chO μ pa j n).toNatClampNeg n rc)))
     else (1, al, wk1 (tkF (va_up μ (100 + 4 * j) (upd (μ (100 + 4 * j)) 7 4)) (100 + 4 * j + 2) (μ (100 + 4 * j) 8)), pa))
  else (1, al, wk1 (va_up μ (100 + 4 * j) (upd (μ (100 + 4 * j)) 7 3)), pa)
theorem ptA_ge {al sz : Nat} : al ≤ ptA al sz := Nat.le_trans grA_ge grA_ge
theorem wkF_al {μ : Nat → Nat → Int32} {pa : Nat → Nat → Int64} {al sz j n rc : Nat} : al ≤ (wkF μ pa al sz j n rc).2.1 := by
  unfold wkF
  split
  · split
    · split
      · exact Nat.le_refl _
      · exact ptA_ge
    · exact Nat.le_refl _
  · exact Nat.le_refl _
theorem sz_room {x : Int32} {sz : Nat} (hx : x = nI sz) (h6 : sz ≤ 600) (h : ¬ (600 : Int32) < x + 2) : sz + 2 ≤ 600 := by
  rcases Nat.lt_or_ge 600 (sz + 2) with q | q
  · exact absurd (by rw [hx, show nI sz + 2 = nI (sz + 2) from nI_add sz 2]; exact nI_lt (a := 600) q (by omega)) h
  · exact q
section WORK
variable {l : Launch} {E : zE} {ad : Nat → Nat} {al : Nat} {μ : Nat → Nat → Int32} {pa : Nat → Nat → Int64}
set_option maxRecDepth 100000 in
set_option maxHeartbeats 4000000 in
theorem m_Se_workAt {h : zH} (hR : zRep E ad al μ pa h) {sz j n rc : Nat} (hS : μ 14 1 = nI sz) (hsz : sz ≤ al) (hal : al ≤ 600) (hj : j < sz) (hn : n ≤ 8) (hN : μ 1 7 = nI n) (hrc : rc ≤ 16) (hM : μ 1 8 = nI rc) : zMet l y_Se_workAt b_Se_workAt 3 (some .boolean) (gR 5 ((wkF μ pa al sz j n rc).2.1 - al)) E [.ref (ad 17), .ref (ad (100 + 4 * j))] ad h (gPost E ad al (fun _ => some (.int (wkF μ pa al sz j n rc).1)) (wkF μ pa al sz j n rc).2.1 (wkF μ pa al sz j n rc).2.2.1 (wkF μ pa al sz j n rc).2.2.2) := by
  refine zMet.of (L := [some (.ref (ad 17)), some (.ref (ad (100 + 4 * j))), none]) (by decide +kernel) (Nat.le_of_ble_eq_true rfl) rfl 1 rfl fun X hl C Z => ?_
  have hja : j < al := by omega
  generalize hT : wkF μ pa al sz j n rc = T at Z C
  have hT1 : al ≤ T.2.1 := by rw [← hT]; exact wkF_al
  unfold wkF at hT
  refine zz_aload_n C d_Se_workAt_0 rfl rfl ?_
  refine zz_get C d_Se_workAt_1 zf_Se_15 ((hR _).trans rfl) rfl ?_
  refine zz_aload_n C d_Se_workAt_4 rfl rfl ?_
  refine zz_get C d_Se_workAt_5 zf_Se_61 ((hR _).trans (zb_nd0 E ad hja _ _)) rfl ?_
  refine zz_callVr (e := 0) C hR d_Se_workAt_8 mk_Se_65 zy_Be_isNotAbove m_Be_isNotAbove ⟨Nat.le_of_ble_eq_true rfl, Nat.le_of_ble_eq_true rfl⟩ ⟨Nat.zero_le _, Nat.zero_le _⟩ rfl rfl rfl rfl (Nat.le_of_ble_eq_true rfl) ?_
  refine zz_if_eq (tgt := 22) C d_Se_workAt_11 (by decide) (fun c_11 => ?_) (fun c_11 => ?_)
  · refine zz_aload_n C d_Se_workAt_22 rfl rfl ?_
    refine zz_aload_n C d_Se_workAt_23 rfl rfl ?_
    refine zz_get C d_Se_workAt_24 zf_Se_47 ((hR _).trans (zb_nd0 E ad hja _ _)) rfl ?_
    refine zz_callVr (e := 2) C hR d_Se_workAt_27 mk_Se_74 zy_Se_choose (m_Se_choose (zb_nd1 E ad hja) (zb_nd2 E ad hja) (zb_nd3 E ad hja) hn hN) ⟨Nat.le_of_ble_eq_true rfl, Nat.le_of_ble_eq_true rfl⟩ ⟨Nat.zero_le _, Nat.zero_le _⟩ rfl rfl rfl rfl (Nat.le_of_ble_eq_true rfl) ?_
    show zz X E 3 ad 0 0 30 [some (.ref (ad 17)), some (.ref (ad (100 + 4 * j))), none] [.int (chO μ pa j n)] h
    refine zz_istore_n C d_Se_workAt_30 rfl (by decide) rfl ?_
    refine zz_iload_n C d_Se_workAt_31 rfl rfl ?_
    refine zz_bipush (v := -2) C d_Se_workAt_32 (by decide) ?_
    refine zz_icmp_ne (tgt := 63) C d_Se_workAt_34 (by decide) (fun c_34 => ?_) (fun c_34 => ?_)
    · refine zz_aload_n C d_Se_workAt_63 rfl rfl ?_
      refine zz_get C d_Se_workAt_64 zf_Se_23 ((hR _).trans rfl) rfl ?_
      refine zz_callVr (e := 0) C hR d_Se_workAt_67 mk_Se_86 zy_Tr_hasRoomForTwo m_Tr_hasRoomForTwo ⟨Nat.le_of_ble_eq_true rfl, Nat.le_of_ble_eq_true rfl⟩ ⟨Nat.zero_le _, Nat.zero_le _⟩ rfl rfl rfl rfl (Nat.le_of_ble_eq_true rfl) ?_
      refine zz_if_eq (tgt := 82) C d_Se_workAt_70 (by decide) (fun c_70 => ?_) (fun c_70 => ?_)
      · refine zz_iconst (v := 0) C d_Se_workAt_82 (by decide) ?_
        simp only [c_11, c_34, c_70, if_true, if_false, not_true_eq_false, not_false_eq_true] at hT
        subst hT
        have Z := Z
        rw [show (gR 5 (al - al)).cells = 0 by simp [gR], show (gR 5 (al - al)).slots = 0 by simp [gR]] at Z
        refine zz_zret C Z d_Se_workAt_83 rfl ?_
        exact ⟨rfl, fun _ _ => rfl, hR⟩
      have hroom := sz_room hS (by omega) (fun q => c_70 (if_pos q))
      obtain hq | ⟨a, ha, hq⟩ := coF_spec (μ (100 + 4 * j + 2)) (μ (100 + 4 * j + 3)) (fun q => meF (μ 22 1) (μ (100 + 4 * j + 2) q) (μ (100 + 4 * j + 3) q) 0 (μ 13 q) (pa 12 q) (μ 4 q)) n
      · exact absurd hq c_34
      have hch : chO μ pa j n = nI a := hq
      simp only [c_11, c_34, c_70, if_true, if_false, not_true_eq_false, not_false_eq_true] at hT
      rw [hch, nI_clamp (by omega)] at hT
      rw [hch]
      subst hT
      refine zz_aload_n C d_Se_workAt_73 rfl rfl ?_
      refine zz_aload_n C d_Se_workAt_74 rfl rfl ?_
      refine zz_iload_n C d_Se_workAt_75 rfl rfl ?_
      refine zz_callV C d_Se_workAt_76 mk_Se_90 zy_Se_part (kb := 17) (m_Se_part hR hS hsz hroom hal hj (a := a) (by omega) hn hN hrc hM) ⟨Nat.le_of_ble_eq_true rfl, Nat.le_of_ble_eq_true rfl⟩ ⟨by show 0 + 4 * (ptA al sz - al) ≤ 4 * (ptA al sz - al); omega, by show 0 + 30 * (ptA al sz - al) ≤ 30 * (ptA al sz - al); omega⟩ ((hR 17).trans rfl) rfl rfl rfl (Nat.le_of_ble_eq_true rfl) (fun r ad1 h1 q => ?_)
      obtain ⟨rfl, hag, hR1⟩ := q
      have hR := hR1
      rw [← hag 17 (by omega)]
      show zz X E 3 ad1 (0 + 4 * (ptA al sz - al)) (0 + 30 * (ptA al sz - al)) 79 [some (.ref (ad1 17)), some (.ref (ad (100 + 4 * j))), some (.int (nI a))] [] h1
      rw [Nat.zero_add, Nat.zero_add]
      refine zz_goto (tgt := 84) C d_Se_workAt_79 (by decide) ?_
      refine zz_aload_n C d_Se_workAt_84 rfl rfl ?_
      refine zz_get C d_Se_workAt_85 zf_Se_23 ((hR _).trans rfl) rfl ?_
      refine zz_dup C d_Se_workAt_88 rfl ?_
      refine zz_get C d_Se_workAt_89 zf_Se_94 ((hR _).trans rfl) rfl ?_
      refine zz_iconst (v := 1) C d_Se_workAt_92 (by decide) ?_
      refine zz_iadd C d_Se_workAt_93 ?_
      refine zz_putI C hR d_Se_workAt_94 zp_Se_94 rfl rfl rfl (Nat.le_of_ble_eq_true rfl) rfl (fun h hR => ?_)
      refine zz_iconst (v := 1) C d_Se_workAt_97 (by decide) ?_
      refine zz_zret C Z d_Se_workAt_98 (by first | rfl | decide | assumption) ?_
      exact ⟨rfl, hag, hR⟩
    · refine zz_aload_n C d_Se_workAt_37 rfl rfl ?_
      refine zz_iconst (v := 4) C d_Se_workAt_38 (by decide) ?_
      refine zz_putI C hR d_Se_workAt_39 zp_Se_71 (zb_nd0 E ad hja _ _) rfl rfl (Nat.le_of_ble_eq_true rfl) (zb_nd0 E ad hja _ _) (fun h hR => ?_)
      refine zz_aload_n C d_Se_workAt_42 rfl rfl ?_
      refine zz_get C d_Se_workAt_43 zf_Se_15 ((hR _).trans rfl) rfl ?_
      refine zz_aload_n C d_Se_workAt_46 rfl rfl ?_
      refine zz_get C d_Se_workAt_47 zf_Se_47 ((hR _).trans (zb_nd0 E ad hja _ _)) rfl ?_
      refine zz_get C d_Se_workAt_50 zf_Se_77 ((hR _).trans (zb_nd1 E ad hja _ _)) rfl ?_
      refine zz_aload_n C d_Se_workAt_53 rfl rfl ?_
      refine zz_getV C hR (μ (100 + 4 * j) 8) _ d_Se_workAt_54 zf_Se_61 (zb_nd0 E ad hja _ _) rfl (by rw [va_up_self]; rfl) ?_
      refine zz_callVv (e := 0) C hR d_Se_workAt_57 mk_Se_82 zy_Be_take (m_Be_take (zb_nd2 E ad hja) (by omega)) ⟨Nat.le_of_ble_eq_true rfl, Nat.le_of_ble_eq_true rfl⟩ ⟨Nat.zero_le _, Nat.zero_le _⟩ rfl rfl rfl rfl (Nat.le_of_ble_eq_true rfl) (fun h hR => ?_)
      refine zz_goto (tgt := 84) C d_Se_workAt_60 (by decide) ?_
      refine zz_aload_n C d_Se_workAt_84 rfl rfl ?_
      refine zz_get C d_Se_workAt_85 zf_Se_23 ((hR _).trans rfl) rfl ?_
      refine zz_dup C d_Se_workAt_88 rfl ?_
      refine zz_get C d_Se_workAt_89 zf_Se_94 ((hR _).trans rfl) rfl ?_
      refine zz_iconst (v := 1) C d_Se_workAt_92 (by decide) ?_
      refine zz_iadd C d_Se_workAt_93 ?_
      refine zz_putI C hR d_Se_workAt_94 zp_Se_94 rfl rfl rfl (Nat.le_of_ble_eq_true rfl) rfl (fun h hR => ?_)
      refine zz_iconst (v := 1) C d_Se_workAt_97 (by decide) ?_
      simp only [c_11, c_34, if_true, if_false, not_true_eq_false, not_false_eq_true] at hT
      subst hT
      have Z := Z
      rw [show (gR 5 (al - al)).cells = 0 by simp [gR], show (gR 5 (al - al)).slots = 0 by simp [gR]] at Z
      refine zz_zret C Z d_Se_workAt_98 rfl ?_
      exact ⟨rfl, fun _ _ => rfl, hR⟩
  · refine zz_aload_n C d_Se_workAt_14 rfl rfl ?_
    refine zz_iconst (v := 3) C d_Se_workAt_15 (by decide) ?_
    refine zz_putI C hR d_Se_workAt_16 zp_Se_71 (zb_nd0 E ad hja _ _) rfl rfl (Nat.le_of_ble_eq_true rfl) (zb_nd0 E ad hja _ _) (fun h hR => ?_)
    refine zz_goto (tgt := 84) C d_Se_workAt_19 (by decide) ?_
    refine zz_aload_n C d_Se_workAt_84 rfl rfl ?_
    refine zz_get C d_Se_workAt_85 zf_Se_23 ((hR _).trans rfl) rfl ?_
    refine zz_dup C d_Se_workAt_88 rfl ?_
    refine zz_get C d_Se_workAt_89 zf_Se_94 ((hR _).trans rfl) rfl ?_
    refine zz_iconst (v := 1) C d_Se_workAt_92 (by decide) ?_
    refine zz_iadd C d_Se_workAt_93 ?_
    refine zz_putI C hR d_Se_workAt_94 zp_Se_94 rfl rfl rfl (Nat.le_of_ble_eq_true rfl) rfl (fun h hR => ?_)
    refine zz_iconst (v := 1) C d_Se_workAt_97 (by decide) ?_
    simp only [c_11, if_true, if_false, not_true_eq_false, not_false_eq_true] at hT
    subst hT
    have Z := Z
    rw [show (gR 5 (al - al)).cells = 0 by simp [gR], show (gR 5 (al - al)).slots = 0 by simp [gR]] at Z
    refine zz_zret C Z d_Se_workAt_98 rfl ?_
    exact ⟨rfl, fun _ _ => rfl, hR⟩
end WORK
