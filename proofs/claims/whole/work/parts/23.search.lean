/-! SEARCH: what grows the tree -/
/-- a new NODE is NARROWED and settled -/
def nsF (m : Nat → Nat → Int32) (j n rc : Nat) : Nat → Nat → Int32 := seF (setB m (100 + 4 * j + 2) (100 + 4 * j + 3) (nwF m n rc 1000 (m (100 + 4 * j + 2), m (100 + 4 * j + 3), m 16 2)).2) j n (nwF m n rc 1000 (m (100 + 4 * j + 2), m (100 + 4 * j + 3), m 16 2)).1
def prtF (μ : Nat → Nat → Int32) (al n rc : Nat) : Nat → Nat → Int32 := nsF (rtF (grF μ al 0) 0) 0 n rc
/-- one child -/
def kdF (m : Nat → Nat → Int32) (al sz p a n rc : Nat) (sd mid : Int32) : Nat → Nat → Int32 := nsF (bcF (grF m al sz) sz p a sd (mid + sd)) sz n rc
def gnF (m : Nat → Nat → Int32) (sz p : Nat) : Int32 := if ¬ m (100 + 4 * sz) 7 = 0 then 50 else m (100 + 4 * sz) 8 - m (100 + 4 * p) 8
theorem okB_nd {E : zE} {ad : Nat → Nat} {al j : Nat} (hj : j < al) : okB E ad al (100 + 4 * j + 1) (100 + 4 * j + 2) (100 + 4 * j + 3) := ⟨zb_nd1 E ad hj, zb_nd2 E ad hj, zb_nd3 E ad hj, by omega, by omega, by omega⟩
theorem grF_fr {μ : Nat → Nat → Int32} {al sz k : Nat} (h1 : k ≠ 14) (h2 : k < 100 + 4 * sz ∨ 100 + 4 * sz + 4 ≤ k) : grF μ al sz k = μ k := by
  unfold grF
  split
  · rw [va_up_ne _ _ h1]
  · rw [va_up_ne _ _ h1, va_up_ne _ _ (by omega), va_up_ne _ _ (by omega), va_up_ne _ _ (by omega)]
theorem grF_14 {μ : Nat → Nat → Int32} {al sz : Nat} : grF μ al sz 14 = upd (μ 14) 1 (nI (sz + 1)) := by
  unfold grF
  split <;> rw [va_up_self]
theorem rtF_fr {μ : Nat → Nat → Int32} {j k : Nat} (h : k < 100 + 4 * j ∨ 100 + 4 * j + 4 ≤ k) : rtF μ j k = μ k := by
  unfold rtF
  rw [cpF_fr (by omega) (by omega), va_up_ne _ _ (by omega)]
theorem bcF_fr {μ : Nat → Nat → Int32} {j p a k : Nat} {sd v : Int32} (h : k < 100 + 4 * j ∨ 100 + 4 * j + 4 ≤ k) : bcF μ j p a sd v k = μ k := by
  unfold bcF chF
  rw [cutF_fr (by omega) (by omega), cpF_fr (by omega) (by omega), va_up_ne _ _ (by omega)]
theorem seF_fr {μ : Nat → Nat → Int32} {j n k : Nat} {c : Int32} (h : k ≠ 100 + 4 * j) : seF μ j n c k = μ k := by
  unfold seF; rw [va_up_ne _ _ h]
theorem nsF_fr {μ : Nat → Nat → Int32} {j n rc k : Nat} (h : k < 100 + 4 * j ∨ 100 + 4 * j + 4 ≤ k) (h16 : k ≠ 16) : nsF μ j n rc k = μ k := by
  unfold nsF
  rw [seF_fr (by omega), setB_fr (by omega) (by omega) h16]
theorem kdF_fr {m : Nat → Nat → Int32} {al sz p a n rc k : Nat} {sd mid : Int32} (h : k < 100 + 4 * sz ∨ 100 + 4 * sz + 4 ≤ k) (h14 : k ≠ 14) (h16 : k ≠ 16) : kdF m al sz p a n rc sd mid k = m k := by
  unfold kdF
  rw [nsF_fr h h16, bcF_fr h, grF_fr h14 h]
theorem kdF_14 {m : Nat → Nat → Int32} {al sz p a n rc : Nat} {sd mid : Int32} : kdF m al sz p a n rc sd mid 14 = upd (m 14) 1 (nI (sz + 1)) := by
  unfold kdF
  rw [nsF_fr (by omega) (by omega), bcF_fr (by omega), grF_14]
theorem grA_gt {al sz : Nat} (h : sz ≤ al) : sz < grA al sz := by
  unfold grA; split <;> omega
theorem grA_ge {al sz : Nat} : al ≤ grA al sz := by
  unfold grA; split <;> omega
section SEARCH
variable {l : Launch} {E : zE} {ad : Nat → Nat} {al : Nat} {μ : Nat → Nat → Int32} {pa : Nat → Nat → Int64}
set_option maxRecDepth 100000 in
set_option maxHeartbeats 4000000 in
theorem m_Se_plantRoot {h : zH} (hR : zRep E ad al μ pa h) (hS : μ 14 1 = nI 0) (hal : al ≤ 600) {n rc : Nat} (hn : n ≤ 8) (hN : μ 1 7 = nI n) (hrc : rc ≤ 16) (hM : μ 1 8 = nI rc) : zMet l y_Se_plantRoot b_Se_plantRoot 2 none (gR 4 (grA al 0 - al)) E [.ref (ad 17)] ad h (gPost E ad al (fun _ => none) (grA al 0) (prtF μ al n rc) pa) := by
  refine zMet.of (L := [some (.ref (ad 17)), none]) (by decide +kernel) (Nat.le_of_ble_eq_true rfl) rfl 1 rfl fun X hl C Z => ?_
  refine zz_aload_n C d_Se_plantRoot_0 rfl rfl ?_
  refine zz_get C d_Se_plantRoot_1 zf_Se_23 ((hR _).trans rfl) rfl ?_
  refine zz_callV C d_Se_plantRoot_4 mk_Se_35 zy_Tr_grow (kb := 14) (m_Tr_grow hR hS (Nat.zero_le _) (by decide) hal) ⟨Nat.le_of_ble_eq_true rfl, Nat.le_of_ble_eq_true rfl⟩ ⟨by show 0 + 4 * _ ≤ 4 * _; omega, by show 0 + 30 * _ ≤ 30 * _; omega⟩ ((hR 14).trans rfl) rfl rfl rfl (Nat.le_of_ble_eq_true rfl) (fun r ad1 h1 q => ?_)
  obtain ⟨rfl, hag, hR1⟩ := q
  have hR := hR1
  rw [← hag 17 (by omega)]
  have h0 : 0 < grA al 0 := grA_gt (Nat.zero_le _)
  have hN1 : grF μ al 0 1 7 = nI n := by rw [grF_fr (by decide) (by omega)]; exact hN
  have hN2 : rtF (grF μ al 0) 0 1 7 = nI n := by rw [rtF_fr (by omega)]; exact hN1
  have hM2 : rtF (grF μ al 0) 0 1 8 = nI rc := by rw [rtF_fr (by omega), grF_fr (by decide) (by omega)]; exact hM
  show zz X E 2 ad1 (0 + 4 * (grA al 0 - al)) (0 + 30 * (grA al 0 - al)) 7 [some (.ref (ad1 17)), none] [.ref (ad1 (100 + 4 * 0))] h1
  rw [Nat.zero_add, Nat.zero_add]
  refine zz_astore_n C d_Se_plantRoot_7 rfl (by decide) rfl ?_
  refine zz_aload_n C d_Se_plantRoot_8 rfl rfl ?_
  refine zz_ifnull C d_Se_plantRoot_9 ?_
  refine zz_aload_n C d_Se_plantRoot_12 rfl rfl ?_
  refine zz_aload_n C d_Se_plantRoot_13 rfl rfl ?_
  refine zz_get C d_Se_plantRoot_14 zf_Se_9 ((hR _).trans rfl) rfl ?_
  refine zz_callVv (e := 1) C hR d_Se_plantRoot_17 mk_Se_41 zy_Nd_becomeRoot (m_Nd_becomeRoot (j := 0) h0) ⟨Nat.le_of_ble_eq_true rfl, Nat.le_of_ble_eq_true rfl⟩ ⟨Nat.le_refl _, Nat.le_refl _⟩ (zb_nd0 E ad1 h0 _ _) rfl rfl rfl (Nat.le_of_ble_eq_true rfl) (fun h hR => ?_)
  refine zz_aload_n C d_Se_plantRoot_20 rfl rfl ?_
  refine zz_aload_n C d_Se_plantRoot_21 rfl rfl ?_
  refine zz_get C d_Se_plantRoot_22 zf_Se_27 ((hR _).trans rfl) rfl ?_
  refine zz_aload_n C d_Se_plantRoot_25 rfl rfl ?_
  refine zz_get C d_Se_plantRoot_26 zf_Se_47 ((hR _).trans (zb_nd0 E ad1 h0 _ _)) rfl ?_
  refine zz_callVw (e := 3) C hR d_Se_plantRoot_29 mk_Se_51 zy_Nr_narrow (m_Nr_narrow hn hN2 (okB_nd h0) hrc hM2) ⟨Nat.le_of_ble_eq_true rfl, Nat.le_of_ble_eq_true rfl⟩ ⟨Nat.le_refl _, Nat.le_refl _⟩ rfl rfl rfl rfl (Nat.le_of_ble_eq_true rfl) (fun h hR => ?_)
  refine zz_aload_n C d_Se_plantRoot_32 rfl rfl ?_
  refine zz_get C d_Se_plantRoot_33 zf_Se_9 ((hR _).trans rfl) rfl ?_
  refine zz_callVv (e := 1) C hR d_Se_plantRoot_36 mk_Se_57 zy_Nd_settle (m_Nd_settle (j := 0) h0 hn (by rw [setB_fr (by omega) (by omega) (by omega)]; exact hN2)) ⟨Nat.le_of_ble_eq_true rfl, Nat.le_of_ble_eq_true rfl⟩ ⟨Nat.le_refl _, Nat.le_refl _⟩ (zb_nd0 E ad1 h0 _ _) rfl rfl rfl (Nat.le_of_ble_eq_true rfl) (fun h hR => ?_)
  refine zz_vret C Z d_Se_plantRoot_39 ?_
  exact ⟨rfl, hag, hR⟩
set_option maxRecDepth 100000 in
set_option maxHeartbeats 4000000 in
theorem st_Se_part {X : zX} {rm : Room} (C : zc X E b_Se_part 8 "BranchTrees$Search" rm) (hrm : 4 ≤ rm.frames ∧ 160 ≤ rm.locals) {kc ks sz p a n rc c : Nat} {sd g mid : Int32} {w : Option Value} (hS : μ 14 1 = nI sz) (hsz : sz ≤ al) (h6 : sz < 600) (hal : al ≤ 600) (hp : p < sz) (ha : a < 8) (hn : n ≤ 8) (hN : μ 1 7 = nI n) (hrc : rc ≤ 16) (hM : μ 1 8 = nI rc) (hc : c < 2) (hk : kc + 4 * (grA al sz - al) ≤ rm.cells ∧ ks + 30 * (grA al sz - al) ≤ rm.slots)
    (kn : ∀ (ad' : Nat → Nat) (h' : zH), (∀ k, k < 100 + 4 * al → ad' k = ad k) → zRep E ad' (grA al sz) (kdF μ al sz p a n rc sd mid) pa h' → zz X E 8 ad' (kc + 4 * (grA al sz - al)) (ks + 30 * (grA al sz - al)) 48 [some (.ref (ad' 17)), some (.ref (ad' (100 + 4 * p))), some (.int (nI a)), some (.int mid), some (.int (1 - sd)), some (.int (g + gnF (kdF μ al sz p a n rc sd mid) sz p)), some (.int (nI (c + 1))), some (.ref (ad' (100 + 4 * sz)))] [] h') :
    ∀ h, zRep E ad al μ pa h → zz X E 8 ad kc ks 48 [some (.ref (ad 17)), some (.ref (ad (100 + 4 * p))), some (.int (nI a)), some (.int mid), some (.int (sd)), some (.int (g)), some (.int (nI (c))), w] [] h := by
  intro h hR
  refine zz_iload C d_Se_part_48 rfl ?_
  refine zz_iconst (v := 2) C d_Se_part_50 (by decide) ?_
  refine zz_icmp_ge (tgt := 142) C d_Se_part_51 (by decide) (fun c_51 => ?_) (fun c_51 => ?_)
  · exact absurd c_51 (nI_ge (b := 2) hc (by decide))
  · refine zz_aload_n C d_Se_part_54 rfl rfl ?_
    refine zz_get C d_Se_part_55 zf_Se_23 ((hR _).trans rfl) rfl ?_
    refine zz_callV C d_Se_part_58 mk_Se_35 zy_Tr_grow (kb := 14) (m_Tr_grow hR hS hsz h6 hal) ⟨by show 3 + 1 ≤ rm.frames; omega, by show 8 + (1 + 11) + 120 ≤ rm.locals; omega⟩ ⟨hk.1, hk.2⟩ ((hR 14).trans rfl) rfl rfl rfl (Nat.le_of_ble_eq_true rfl) (fun r ad1 h1 q => ?_)
    obtain ⟨rfl, hag, hR1⟩ := q
    have hR := hR1
    rw [← hag 17 (by omega), ← hag (100 + 4 * p) (by omega)]
    have hz : sz < grA al sz := grA_gt hsz
    have hpA : p < grA al sz := by omega
    have hN1 : bcF (grF μ al sz) sz p a sd (mid + sd) 1 7 = nI n := by rw [bcF_fr (by omega), grF_fr (by decide) (by omega)]; exact hN
    have hM1 : bcF (grF μ al sz) sz p a sd (mid + sd) 1 8 = nI rc := by rw [bcF_fr (by omega), grF_fr (by decide) (by omega)]; exact hM
    have K := kn ad1
    show zz X E 8 ad1 (kc + 4 * (grA al sz - al)) (ks + 30 * (grA al sz - al)) 61 [some (.ref (ad1 17)), some (.ref (ad1 (100 + 4 * p))), some (.int (nI a)), some (.int mid), some (.int (sd)), some (.int (g)), some (.int (nI (c))), w] [.ref (ad1 (100 + 4 * sz))] h1
    refine zz_astore C d_Se_part_61 (by decide) rfl ?_
    refine zz_aload C d_Se_part_63 rfl ?_
    refine zz_ifnull C d_Se_part_65 ?_
    refine zz_aload C d_Se_part_68 rfl ?_
    refine zz_aload_n C d_Se_part_70 rfl rfl ?_
    refine zz_iload_n C d_Se_part_71 rfl rfl ?_
    refine zz_iload C d_Se_part_72 rfl ?_
    refine zz_iload_n C d_Se_part_74 rfl rfl ?_
    refine zz_iload C d_Se_part_75 rfl ?_
    refine zz_iadd C d_Se_part_77 ?_
    refine zz_callVv (e := 2) C hR d_Se_part_78 mk_Se_130 zy_Nd_becomeChild (m_Nd_becomeChild hz hpA (by omega) ha) ⟨by omega, by omega⟩ ⟨hk.1, hk.2⟩ (zb_nd0 E ad1 hz _ _) rfl rfl rfl (Nat.le_of_ble_eq_true rfl) (fun h hR => ?_)
    refine zz_aload C d_Se_part_81 rfl ?_
    refine zz_aload_n C d_Se_part_83 rfl rfl ?_
    refine zz_get C d_Se_part_84 zf_Se_27 ((hR _).trans rfl) rfl ?_
    refine zz_aload C d_Se_part_87 rfl ?_
    refine zz_get C d_Se_part_89 zf_Se_47 ((hR _).trans (zb_nd0 E ad1 hz _ _)) rfl ?_
    refine zz_callVw (e := 3) C hR d_Se_part_92 mk_Se_51 zy_Nr_narrow (m_Nr_narrow hn hN1 (okB_nd hz) hrc hM1) ⟨by omega, by omega⟩ ⟨hk.1, hk.2⟩ rfl rfl rfl rfl (Nat.le_of_ble_eq_true rfl) (fun h hR => ?_)
    refine zz_aload_n C d_Se_part_95 rfl rfl ?_
    refine zz_get C d_Se_part_96 zf_Se_9 ((hR _).trans rfl) rfl ?_
    refine zz_callVv (e := 1) C hR d_Se_part_99 mk_Se_57 zy_Nd_settle (m_Nd_settle hz hn (by rw [setB_fr (by omega) (by omega) (by omega)]; exact hN1)) ⟨by omega, by omega⟩ ⟨hk.1, hk.2⟩ (zb_nd0 E ad1 hz _ _) rfl rfl rfl (Nat.le_of_ble_eq_true rfl) (fun h hR => ?_)
    have K := K _ hag hR
    refine zz_iload C d_Se_part_102 rfl ?_
    refine zz_aload C d_Se_part_104 rfl ?_
    refine zz_get C d_Se_part_106 zf_Se_71 ((hR _).trans (zb_nd0 E ad1 hz _ _)) rfl ?_
    refine zz_if_ne (tgt := 125) C d_Se_part_109 (by decide) (fun c_109 => ?_) (fun c_109 => ?_)
    · refine zz_bipush (v := 50) C d_Se_part_125 (by decide) ?_
      refine zz_iadd C d_Se_part_127 ?_
      refine zz_istore C d_Se_part_128 (by decide) rfl ?_
      refine zz_iconst (v := 1) C d_Se_part_130 (by decide) ?_
      refine zz_iload C d_Se_part_131 rfl ?_
      refine zz_isub C d_Se_part_133 ?_
      refine zz_istore C d_Se_part_134 (by decide) rfl ?_
      refine zz_iinc C d_Se_part_136 rfl (nI_inc _) (by decide) rfl ?_
      refine zz_goto (tgt := 48) C d_Se_part_139 (by decide) ?_
      simp only [gnF, kdF, nsF, c_109, if_true, if_false, not_true_eq_false, not_false_eq_true] at K
      exact K
    · refine zz_aload C d_Se_part_112 rfl ?_
      refine zz_get C d_Se_part_114 zf_Se_61 ((hR _).trans (zb_nd0 E ad1 hz _ _)) rfl ?_
      refine zz_aload_n C d_Se_part_117 rfl rfl ?_
      refine zz_get C d_Se_part_118 zf_Se_61 ((hR _).trans (zb_nd0 E ad1 hpA _ _)) rfl ?_
      refine zz_isub C d_Se_part_121 ?_
      refine zz_goto (tgt := 127) C d_Se_part_122 (by decide) ?_
      refine zz_iadd C d_Se_part_127 ?_
      refine zz_istore C d_Se_part_128 (by decide) rfl ?_
      refine zz_iconst (v := 1) C d_Se_part_130 (by decide) ?_
      refine zz_iload C d_Se_part_131 rfl ?_
      refine zz_isub C d_Se_part_133 ?_
      refine zz_istore C d_Se_part_134 (by decide) rfl ?_
      refine zz_iinc C d_Se_part_136 rfl (nI_inc _) (by decide) rfl ?_
      refine zz_goto (tgt := 48) C d_Se_part_139 (by decide) ?_
      simp only [gnF, kdF, nsF, c_109, if_true, if_false, not_true_eq_false, not_false_eq_true] at K
      exact K
end SEARCH
