/-! SEARCH.part, workAt -/
def ptMid (μ : Nat → Nat → Int32) (p a : Nat) : Int32 := fdF (μ (100 + 4 * p + 2) a + μ (100 + 4 * p + 3) a) 2
def pt0 (μ : Nat → Nat → Int32) (p a : Nat) : Nat → Nat → Int32 := va_up μ (100 + 4 * p) (upd (upd (μ (100 + 4 * p)) 7 1) 10 (nI a))
def pt1 (μ : Nat → Nat → Int32) (al sz p a n rc : Nat) : Nat → Nat → Int32 := kdF (pt0 μ p a) al sz p a n rc (μ 22 2) (ptMid μ p a)
def pt2 (μ : Nat → Nat → Int32) (al sz p a n rc : Nat) : Nat → Nat → Int32 := kdF (pt1 μ al sz p a n rc) (grA al sz) (sz + 1) p a n rc (1 - μ 22 2) (ptMid μ p a)
def ptG (μ : Nat → Nat → Int32) (al sz p a n rc : Nat) : Int32 := 0 + gnF (pt1 μ al sz p a n rc) sz p + gnF (pt2 μ al sz p a n rc) (sz + 1) p
def ptM (μ : Nat → Nat → Int32) (al sz p a n rc : Nat) : Nat → Nat → Int32 := va_up (pt2 μ al sz p a n rc) 13 (upd (pt2 μ al sz p a n rc 13) a (pt2 μ al sz p a n rc 13 a + 2))
def ptP (pa : Nat → Nat → Int64) (a : Nat) (g : Int32) : Nat → Nat → Int64 := va_up pa 12 (vp_updL (pa 12) a (pa 12 a + g.toInt64))
def ptA (al sz : Nat) : Nat := grA (grA al sz) (sz + 1)
section PART
variable {l : Launch} {E : zE} {ad : Nat → Nat} {al : Nat} {μ : Nat → Nat → Int32} {pa : Nat → Nat → Int64}
set_option maxRecDepth 100000 in
set_option maxHeartbeats 4000000 in
theorem m_Se_part {h : zH} (hR : zRep E ad al μ pa h) {sz p a n rc : Nat} (hS : μ 14 1 = nI sz) (hsz : sz ≤ al) (h6 : sz + 2 ≤ 600) (hal : al ≤ 600) (hp : p < sz) (ha : a < 8) (hn : n ≤ 8) (hN : μ 1 7 = nI n) (hrc : rc ≤ 16) (hM : μ 1 8 = nI rc) : zMet l y_Se_part b_Se_part 8 none (gR 4 (ptA al sz - al)) E [.ref (ad 17), .ref (ad (100 + 4 * p)), .int (nI a)] ad h (gPost E ad al (fun _ => none) (ptA al sz) (ptM μ al sz p a n rc) (ptP pa a (ptG μ al sz p a n rc))) := by
  refine zMet.of (L := [some (.ref (ad 17)), some (.ref (ad (100 + 4 * p))), some (.int (nI a)), none, none, none, none, none]) (by decide +kernel) (Nat.le_of_ble_eq_true rfl) rfl 5 rfl fun X hl C Z => ?_
  have hpa : p < al := by omega
  have g1 : al ≤ grA al sz := grA_ge
  have g2 : grA al sz ≤ ptA al sz := grA_ge
  have g3 : grA al sz ≤ 600 := by unfold grA; split <;> omega
  have g4 : sz < grA al sz := grA_gt hsz
  have i0 : ∀ k, k ≠ 100 + 4 * p → pt0 μ p a k = μ k := fun k hk => by unfold pt0; rw [va_up_ne _ _ hk]
  have i1 : ∀ k, (k < 100 + 4 * sz ∨ 100 + 4 * sz + 4 ≤ k) → k ≠ 14 → k ≠ 16 → k ≠ 100 + 4 * p → pt1 μ al sz p a n rc k = μ k := fun k a1 a2 a3 a4 => by unfold pt1; rw [kdF_fr a1 a2 a3, i0 k a4]
  have s1 : pt1 μ al sz p a n rc 14 1 = nI (sz + 1) := by unfold pt1; rw [kdF_14, pk_us]
  have hrm : 4 ≤ (gR 4 (ptA al sz - al)).frames ∧ 160 ≤ (gR 4 (ptA al sz - al)).locals := ⟨Nat.le_of_ble_eq_true rfl, Nat.le_of_ble_eq_true rfl⟩
  refine zz_aload_n C d_Se_part_0 rfl rfl ?_
  refine zz_get C d_Se_part_1 zf_Se_47 ((hR _).trans (zb_nd0 E ad hpa _ _)) rfl ?_
  refine zz_get C d_Se_part_4 zf_Se_77 ((hR _).trans (zb_nd1 E ad hpa _ _)) rfl ?_
  refine zz_iload_n C d_Se_part_7 rfl rfl ?_
  refine zz_ialdR (j := a) C hR d_Se_part_8 (zb_nd2 E ad hpa) rfl ha (by decide) ?_
  refine zz_aload_n C d_Se_part_9 rfl rfl ?_
  refine zz_get C d_Se_part_10 zf_Se_47 ((hR _).trans (zb_nd0 E ad hpa _ _)) rfl ?_
  refine zz_get C d_Se_part_13 zf_Se_102 ((hR _).trans (zb_nd1 E ad hpa _ _)) rfl ?_
  refine zz_iload_n C d_Se_part_16 rfl rfl ?_
  refine zz_ialdR (j := a) C hR d_Se_part_17 (zb_nd3 E ad hpa) rfl ha (by decide) ?_
  refine zz_iadd C d_Se_part_18 ?_
  refine zz_iconst (v := 2) C d_Se_part_19 (by decide) ?_
  refine zz_callSr (e := 0) C hR d_Se_part_20 mk_Se_123 zy_Ma_floorDiv (m_Ma_floorDiv (by decide)) ⟨Nat.le_of_ble_eq_true rfl, Nat.le_of_ble_eq_true rfl⟩ ⟨Nat.zero_le _, Nat.zero_le _⟩ rfl rfl (Nat.le_of_ble_eq_true rfl) ?_
  refine zz_istore_n C d_Se_part_23 rfl (by decide) rfl ?_
  refine zz_aload_n C d_Se_part_24 rfl rfl ?_
  refine zz_iconst (v := 1) C d_Se_part_25 (by decide) ?_
  refine zz_putI C hR d_Se_part_26 zp_Se_71 (zb_nd0 E ad hpa _ _) rfl rfl (Nat.le_of_ble_eq_true rfl) (zb_nd0 E ad hpa _ _) (fun h hR => ?_)
  refine zz_aload_n C d_Se_part_29 rfl rfl ?_
  refine zz_iload_n C d_Se_part_30 rfl rfl ?_
  refine zz_putI C hR d_Se_part_31 zp_Se_127 (zb_nd0 E ad hpa _ _) rfl rfl (Nat.le_of_ble_eq_true rfl) (zb_nd0 E ad hpa _ _) (fun h hR => ?_)
  have hR : zRep E ad al (pt0 μ p a) pa h := by simp only [bx_uu, va_up_self] at hR; exact hR
  refine zz_aload_n C d_Se_part_34 rfl rfl ?_
  refine zz_get C d_Se_part_35 zf_Se_31 ((hR _).trans rfl) rfl ?_
  refine zz_iconst (v := 2) C d_Se_part_38 (by decide) ?_
  refine zz_ialdV (j := 2) C hR (μ 22 2) d_Se_part_39 (fun _ _ => rfl) rfl (by decide) (by decide) (by rw [i0 22 (by omega)]) ?_
  refine zz_istore C d_Se_part_40 (by decide) rfl ?_
  refine zz_iconst (v := 0) C d_Se_part_42 (by decide) ?_
  refine zz_istore C d_Se_part_43 (by decide) rfl ?_
  refine zz_iconst (v := 0) C d_Se_part_45 (by decide) ?_
  refine zz_istore C d_Se_part_46 (by decide) rfl ?_
  have K2 : ∀ (ad2 : Nat → Nat) (h2 : zH), (∀ k, k < 100 + 4 * al → ad2 k = ad k) → zRep E ad2 (ptA al sz) (pt2 μ al sz p a n rc) pa h2 → zz X E 8 ad2 (4 * (ptA al sz - al)) (30 * (ptA al sz - al)) 48 [some (.ref (ad2 17)), some (.ref (ad2 (100 + 4 * p))), some (.int (nI a)), some (.int (ptMid μ p a)), some (.int (1 - (1 - μ 22 2))), some (.int (ptG μ al sz p a n rc)), some (.int (nI 2)), some (.ref (ad2 (100 + 4 * (sz + 1))))] [] h2 := by
    intro ad2 h2 hag hR
    refine zz_iload C d_Se_part_48 rfl ?_
    refine zz_iconst (v := 2) C d_Se_part_50 (by decide) ?_
    refine zz_icmp_ge (tgt := 142) C d_Se_part_51 (by decide) (fun c_51 => ?_) (fun c_51 => ?_)
    · refine zz_aload_n C d_Se_part_142 rfl rfl ?_
      refine zz_get C d_Se_part_143 zf_Se_19 ((hR _).trans rfl) rfl ?_
      refine zz_iload_n C d_Se_part_146 rfl rfl ?_
      refine zz_iload C d_Se_part_147 rfl ?_
      refine zz_callVv (e := 0) C hR d_Se_part_149 mk_Se_134 zy_Pr_learn (m_Pr_learn ha) ⟨Nat.le_of_ble_eq_true rfl, Nat.le_of_ble_eq_true rfl⟩ ⟨Nat.le_refl _, Nat.le_refl _⟩ rfl rfl rfl rfl (Nat.le_of_ble_eq_true rfl) (fun h hR => ?_)
      refine zz_vret C Z d_Se_part_152 ?_
      exact ⟨rfl, hag, hR⟩
    · exact absurd (by decide) c_51
  refine st_Se_part (μ := pt0 μ p a) C hrm (c := 0) (sz := sz) (n := n) (rc := rc) (by rw [i0 14 (by omega)]; exact hS) hsz (by omega) hal hp ha hn (by rw [i0 1 (by omega)]; exact hN) hrc (by rw [i0 1 (by omega)]; exact hM) (by decide) ⟨by show 0 + _ ≤ 4 * _; omega, by show 0 + _ ≤ 30 * _; omega⟩ (fun ad1 h1 hag1 hR1 => ?_) h hR
  have K1 := st_Se_part (ad := ad1) (al := grA al sz) (μ := pt1 μ al sz p a n rc) C hrm (kc := 0 + 4 * (grA al sz - al)) (ks := 0 + 30 * (grA al sz - al)) (c := 1) (sz := sz + 1) (p := p) (a := a) (n := n) (rc := rc) (sd := 1 - μ 22 2) (g := 0 + gnF (pt1 μ al sz p a n rc) sz p) (mid := ptMid μ p a) (w := some (.ref (ad1 (100 + 4 * sz)))) (pa := pa) s1 (by omega) (by omega) g3 (by omega) ha hn (by rw [i1 1 (by omega) (by omega) (by omega) (by omega)]; exact hN) hrc (by rw [i1 1 (by omega) (by omega) (by omega) (by omega)]; exact hM) (by decide) ⟨by show _ ≤ 4 * _; unfold ptA at g2 ⊢; omega, by show _ ≤ 30 * _; unfold ptA at g2 ⊢; omega⟩ (fun ad2 h2 hag2 hR2 => ?_) h1 hR1
  · exact K1
  have e1 : 0 + 4 * (grA al sz - al) + 4 * (grA (grA al sz) (sz + 1) - grA al sz) = 4 * (ptA al sz - al) := by unfold ptA at g2 ⊢; omega
  have e2 : 0 + 30 * (grA al sz - al) + 30 * (grA (grA al sz) (sz + 1) - grA al sz) = 30 * (ptA al sz - al) := by unfold ptA at g2 ⊢; omega
  rw [e1, e2]
  exact K2 ad2 h2 (fun k hk => by rw [hag2 k (by omega), hag1 k hk]) hR2
end PART
