/-! BRANCHTREES.run -/
def szO (μ : Nat → Nat → Int32) : Nat := (μ 14 1).toNatClampNeg
def enF (μ : Nat → Nat → Int32) : Int32 := if cnF μ 0 (szO μ) ≤ 0 then (if μ 9 1 = 0 then 0 else 1) else 2
def rnL (n rc : Nat) : Nat → Nat → (Nat → Nat → Int32) → (Nat → Nat → Int64) → zQ
  | 0, al, μ, pa => (enF μ, al, μ, pa)
  | k + 1, al, μ, pa => match pkF μ (μ 22 0) (szO μ) with
    | none => (enF μ, al, μ, pa)
    | some j => if ¬ (wkF μ pa al (szO μ) j n rc).1 = 0 then rnL n rc k (wkF μ pa al (szO μ) j n rc).2.1 (wkF μ pa al (szO μ) j n rc).2.2.1 (wkF μ pa al (szO μ) j n rc).2.2.2 else (-3, (wkF μ pa al (szO μ) j n rc).2)
/-- what stays while the tree grows -/
def rI (n rc al sz : Nat) (μ : Nat → Nat → Int32) : Prop := μ 14 1 = nI sz ∧ sz ≤ al ∧ al ≤ 600 ∧ μ 1 7 = nI n ∧ μ 1 8 = nI rc
theorem rI.sz {n rc al sz : Nat} {μ : Nat → Nat → Int32} (h : rI n rc al sz μ) : szO μ = sz := by
  unfold szO
  rw [h.1, nI_clamp (by have := h.2.1; have := h.2.2.1; omega)]
theorem pt2_fr {μ : Nat → Nat → Int32} {al sz p a n rc k : Nat} (h : k < 100 + 4 * sz ∨ 100 + 4 * sz + 8 ≤ k) (h14 : k ≠ 14) (h16 : k ≠ 16) (hp : k ≠ 100 + 4 * p) : pt2 μ al sz p a n rc k = μ k := by
  unfold pt2 pt1 pt0
  rw [kdF_fr (by omega) h14 h16, kdF_fr (by omega) h14 h16, va_up_ne _ _ hp]
theorem pt2_14 {μ : Nat → Nat → Int32} {al sz p a n rc : Nat} : pt2 μ al sz p a n rc 14 1 = nI (sz + 2) := by
  unfold pt2; rw [kdF_14, pk_us]
theorem wkF_inv {μ : Nat → Nat → Int32} {pa : Nat → Nat → Int64} {al sz j n rc : Nat} (h : rI n rc al sz μ) (hj : j < sz) : ∃ sz', rI n rc (wkF μ pa al sz j n rc).2.1 sz' (wkF μ pa al sz j n rc).2.2.1 ∧ sz ≤ sz' := by
  obtain ⟨h1, h2, h3, h4, h5⟩ := h
  unfold wkF
  split
  · split
    · split
      · exact ⟨sz, ⟨h1, h2, h3, h4, h5⟩, Nat.le_refl _⟩
      · rename_i c
        have hr : sz + 2 ≤ 600 := by first | exact sz_room h1 (by omega) c | exact sz_room h1 (by omega) (fun q => c (if_pos q))
        refine ⟨sz + 2, ⟨?_, ?_, ?_, ?_, ?_⟩, by omega⟩
        · show wk1 (ptM _ _ _ _ _ _ _) 14 1 = _
          unfold wk1 ptM
          rw [va_up_self, pk_un (by decide), va_up_ne _ _ (by decide)]
          exact pt2_14
        · show sz + 2 ≤ ptA al sz
          unfold ptA grA
          split <;> split <;> omega
        · show ptA al sz ≤ 600
          unfold ptA grA
          split <;> split <;> omega
        · show wk1 (ptM _ _ _ _ _ _ _) 1 7 = _
          unfold wk1 ptM
          rw [va_up_ne _ _ (by decide), va_up_ne _ _ (by decide), pt2_fr (by omega) (by decide) (by decide) (by omega)]
          exact h4
        · show wk1 (ptM _ _ _ _ _ _ _) 1 8 = _
          unfold wk1 ptM
          rw [va_up_ne _ _ (by decide), va_up_ne _ _ (by decide), pt2_fr (by omega) (by decide) (by decide) (by omega)]
          exact h5
    · have f : ∀ k, k < 9 ∨ k = 14 → tkF (va_up μ (100 + 4 * j) (upd (μ (100 + 4 * j)) 7 4)) (100 + 4 * j + 2) (μ (100 + 4 * j) 8) k = μ k := fun k hk => by
        unfold tkF tk0
        rw [va_up_ne _ _ (by omega), va_up_ne _ _ (by omega), va_up_ne _ _ (by omega)]
      refine ⟨sz, ⟨?_, h2, h3, ?_, ?_⟩, Nat.le_refl _⟩
      · show wk1 (tkF (va_up μ (100 + 4 * j) (upd (μ (100 + 4 * j)) 7 4)) (100 + 4 * j + 2) (μ (100 + 4 * j) 8)) 14 1 = _
        unfold wk1
        rw [va_up_self, pk_un (by decide), f 14 (Or.inr rfl)]; exact h1
      · show wk1 (tkF (va_up μ (100 + 4 * j) (upd (μ (100 + 4 * j)) 7 4)) (100 + 4 * j + 2) (μ (100 + 4 * j) 8)) 1 7 = _
        unfold wk1
        rw [va_up_ne _ _ (by decide), f 1 (by omega)]; exact h4
      · show wk1 (tkF (va_up μ (100 + 4 * j) (upd (μ (100 + 4 * j)) 7 4)) (100 + 4 * j + 2) (μ (100 + 4 * j) 8)) 1 8 = _
        unfold wk1
        rw [va_up_ne _ _ (by decide), f 1 (by omega)]; exact h5
  · refine ⟨sz, ⟨?_, h2, h3, ?_, ?_⟩, Nat.le_refl _⟩
    · show wk1 (va_up μ (100 + 4 * j) (upd (μ (100 + 4 * j)) 7 3)) 14 1 = _
      unfold wk1
      rw [va_up_self, pk_un (by decide), va_up_ne _ _ (by omega)]; exact h1
    · show wk1 (va_up μ (100 + 4 * j) (upd (μ (100 + 4 * j)) 7 3)) 1 7 = _
      unfold wk1
      rw [va_up_ne _ _ (by decide), va_up_ne _ _ (by omega)]; exact h4
    · show wk1 (va_up μ (100 + 4 * j) (upd (μ (100 + 4 * j)) 7 3)) 1 8 = _
      unfold wk1
      rw [va_up_ne _ _ (by decide), va_up_ne _ _ (by omega)]; exact h5
theorem rnL_al {n rc : Nat} : ∀ (k al : Nat) (μ : Nat → Nat → Int32) (pa : Nat → Nat → Int64), al ≤ (rnL n rc k al μ pa).2.1
  | 0, al, μ, pa => Nat.le_refl _
  | k + 1, al, μ, pa => by
    unfold rnL
    cases pkF μ (μ 22 0) (szO μ) with
    | none => exact Nat.le_refl _
    | some j =>
      show al ≤ (if ¬ (wkF μ pa al (szO μ) j n rc).1 = 0 then rnL n rc k (wkF μ pa al (szO μ) j n rc).2.1 (wkF μ pa al (szO μ) j n rc).2.2.1 (wkF μ pa al (szO μ) j n rc).2.2.2 else (-3, (wkF μ pa al (szO μ) j n rc).2)).2.1
      split
      · exact Nat.le_trans wkF_al (rnL_al k _ _ _)
      · exact wkF_al
/-- what run begins with -/
def rn0 (μ : Nat → Nat → Int32) (al n rc : Nat) : Nat → Nat → Int32 := if ¬ μ 14 1 = 0 then μ else prtF μ al n rc
def ra0 (μ : Nat → Nat → Int32) (al : Nat) : Nat := if ¬ μ 14 1 = 0 then al else grA al 0
def ruF (μ : Nat → Nat → Int32) (pa : Nat → Nat → Int64) (al n rc : Nat) (x : Int32) : zQ := if x < 1 then (-1, al, μ, pa) else if 300 < x then (-1, al, μ, pa) else if ¬ μ 1 7 = 0 then rnL n rc x.toNatClampNeg (ra0 μ al) (rn0 μ al n rc) pa else (-1, al, μ, pa)
theorem prtF_inv {μ : Nat → Nat → Int32} {al n rc : Nat} (h : rI n rc al 0 μ) : rI n rc (grA al 0) 1 (prtF μ al n rc) := by
  obtain ⟨h1, h2, h3, h4, h5⟩ := h
  have f : ∀ k, k < 100 → k ≠ 14 → k ≠ 16 → prtF μ al n rc k = μ k := fun k a b c => by
    unfold prtF; rw [nsF_fr (by omega) c, rtF_fr (by omega), grF_fr b (by omega)]
  refine ⟨?_, grA_gt (Nat.zero_le _), ?_, by rw [f 1 (by omega) (by decide) (by decide)]; exact h4, by rw [f 1 (by omega) (by decide) (by decide)]; exact h5⟩
  · unfold prtF; rw [nsF_fr (by omega) (by decide), rtF_fr (by omega), grF_14, pk_us]
  · unfold grA; split <;> omega
theorem lt1_pos {x : Int32} (h : ¬ x < 1) : ¬ x < 0 := by
  rw [Int32.lt_iff_toInt_lt] at h ⊢
  have h1 : (1 : Int32).toInt = 1 := by decide
  have h0 : (0 : Int32).toInt = 0 := by decide
  omega
theorem gt300_le {x : Int32} (h : ¬ 300 < x) : x ≤ 300 := by
  rw [Int32.lt_iff_toInt_lt] at h
  rw [Int32.le_iff_toInt_le]
  omega
section RUN
variable {l : Launch} {E : zE}
set_option maxRecDepth 100000 in
set_option maxHeartbeats 4000000 in
theorem lp_BT_run {X : zX} {post : Option Value → (Nat → Nat) → zH → Prop} {T : zQ} {al0 : Nat} {ad0 : Nat → Nat} {n rc wk : Nat} (C : zc X E b_BT_run 4 "BranchTrees" (gR 6 (T.2.1 - al0))) (Z : zr X E (some .int) (4 * (T.2.1 - al0)) (30 * (T.2.1 - al0)) post) (hn : n ≤ 8) (hrc : rc ≤ 16) (hwk : wk ≤ 300)
    (hpost : ∀ (ad' : Nat → Nat) (h' : zH), (∀ k, k < 100 + 4 * al0 → ad' k = ad0 k) → zRep E ad' T.2.1 T.2.2.1 T.2.2.2 h' → post (some (.int T.1)) ad' h') :
    ∀ (k i al sz : Nat) (ad : Nat → Nat) (μ : Nat → Nat → Int32) (pa : Nat → Nat → Int64) (w : Option Value), wk - i = k → i ≤ wk → rI n rc al sz μ → rnL n rc k al μ pa = T → al0 ≤ al → (∀ k, k < 100 + 4 * al0 → ad k = ad0 k) → ∀ h, zRep E ad al μ pa h → zz X E 4 ad (4 * (al - al0)) (30 * (al - al0)) 43 [some (.ref (ad 0)), some (.int (nI wk)), some (.int (nI i)), w] [] h := by
  intro k
  have END : ∀ (i al sz : Nat) (ad : Nat → Nat) (μ : Nat → Nat → Int32) (pa : Nat → Nat → Int64) (w : Option Value), rI n rc al sz μ → (enF μ, al, μ, pa) = T → (∀ k, k < 100 + 4 * al0 → ad k = ad0 k) → ∀ h, zRep E ad al μ pa h → zz X E 4 ad (4 * (al - al0)) (30 * (al - al0)) 89 [some (.ref (ad 0)), some (.int (nI wk)), some (.int (nI i)), w] [] h := by
    intro i al sz ad μ pa w hI hT hag h hR
    subst hT
    have hs := hI.sz
    obtain ⟨h1, h2, h3, h4, h5⟩ := hI
    refine zz_aload_n C d_BT_run_89 rfl rfl ?_
    refine zz_get C d_BT_run_90 zf_BT_33 ((hR _).trans rfl) rfl ?_
    refine zz_iconst (v := 0) C d_BT_run_93 (by decide) ?_
    refine zz_callVr (e := 0) C hR d_BT_run_94 mk_BT_141 zy_Tr_countOf (m_Tr_countOf h1 h2 h3) ⟨Nat.le_of_ble_eq_true rfl, Nat.le_of_ble_eq_true rfl⟩ ⟨Nat.le_refl _, Nat.le_refl _⟩ rfl rfl rfl rfl (Nat.le_of_ble_eq_true rfl) ?_
    refine zz_if_le (tgt := 102) C d_BT_run_97 (by decide) (fun c_97 => ?_) (fun c_97 => ?_)
    · refine zz_aload_n C d_BT_run_102 rfl rfl ?_
      refine zz_get C d_BT_run_103 zf_BT_19 ((hR _).trans rfl) rfl ?_
      refine zz_get C d_BT_run_106 zf_BT_145 ((hR _).trans rfl) rfl ?_
      refine zz_if_eq (tgt := 116) C d_BT_run_109 (by decide) (fun c_109 => ?_) (fun c_109 => ?_)
      · refine zz_iconst (v := 0) C d_BT_run_116 (by decide) ?_
        refine zz_iret C Z d_BT_run_117 ?_
        have q := hpost ad h hag hR
        simp only [enF, hs, c_97, c_109, if_true, if_false] at q
        exact q
      · refine zz_iconst (v := 1) C d_BT_run_112 (by decide) ?_
        refine zz_goto (tgt := 117) C d_BT_run_113 (by decide) ?_
        refine zz_iret C Z d_BT_run_117 ?_
        have q := hpost ad h hag hR
        simp only [enF, hs, c_97, c_109, if_true, if_false] at q
        exact q
    · refine zz_iconst (v := 2) C d_BT_run_100 (by decide) ?_
      refine zz_iret C Z d_BT_run_101 ?_
      have q := hpost ad h hag hR
      simp only [enF, hs, c_97, if_true, if_false] at q
      exact q
  induction k with
  | zero =>
    intro i al sz ad μ pa w hk hin hI hT hal0 hag h hR
    have e : i = wk := by omega
    subst e
    refine zz_iload_n C d_BT_run_43 rfl rfl ?_
    refine zz_iload_n C d_BT_run_44 rfl rfl ?_
    refine zz_icmp_ge (tgt := 89) C d_BT_run_45 (by decide) (fun c_45 => ?_) (fun c_45 => ?_)
    · exact END _ al sz ad μ pa _ hI hT hag h hR
    · exact absurd (nI_le (Nat.le_refl _) (by omega)) c_45
  | succ k ih =>
    intro i al sz ad μ pa w hk hin hI hT hal0 hag h hR
    have hlt : i < wk := by omega
    have hs := hI.sz
    have hI0 := hI
    have hTa : al ≤ T.2.1 := by rw [← hT]; exact rnL_al _ _ _ _
    obtain ⟨h1, h2, h3, h4, h5⟩ := hI
    unfold rnL at hT
    rw [hs] at hT
    refine zz_iload_n C d_BT_run_43 rfl rfl ?_
    refine zz_iload_n C d_BT_run_44 rfl rfl ?_
    refine zz_icmp_ge (tgt := 89) C d_BT_run_45 (by decide) (fun c_45 => ?_) (fun c_45 => ?_)
    · exact absurd c_45 (nI_ge hlt (by omega))
    · refine zz_aload_n C d_BT_run_48 rfl rfl ?_
      refine zz_get C d_BT_run_49 zf_BT_33 ((hR _).trans rfl) rfl ?_
      refine zz_aload_n C d_BT_run_52 rfl rfl ?_
      refine zz_get C d_BT_run_53 zf_BT_41 ((hR _).trans rfl) rfl ?_
      refine zz_iconst (v := 0) C d_BT_run_56 (by decide) ?_
      refine zz_ialdR (j := 0) C hR d_BT_run_57 (fun _ _ => rfl) rfl (by decide) (by decide) ?_
      refine zz_callVr (e := 1) C hR d_BT_run_58 mk_BT_133 zy_Tr_pick (m_Tr_pick h1 h2 h3) ⟨Nat.le_of_ble_eq_true rfl, Nat.le_of_ble_eq_true rfl⟩ ⟨by show 4 * (al - al0) ≤ 4 * (T.2.1 - al0); omega, by show 30 * (al - al0) ≤ 30 * (T.2.1 - al0); omega⟩ rfl rfl rfl rfl (Nat.le_of_ble_eq_true rfl) ?_
      cases hp : pkF μ (μ 22 0) sz with
      | none =>
        rw [hp] at hT
        refine zz_astore_nN C d_BT_run_61 rfl (by decide) rfl ?_
        refine zz_aload_nN C d_BT_run_62 rfl rfl ?_
        refine zz_ifnonnullN C d_BT_run_63 ?_
        refine zz_goto (tgt := 89) C d_BT_run_66 (by decide) ?_
        exact END _ al sz ad μ pa _ hI0 hT hag h hR
      | some j =>
        have hj := pkF_lt hp
        rw [hp] at hT
        have hwa : al ≤ (wkF μ pa al sz j n rc).2.1 := wkF_al
        obtain ⟨sz2, hI2, hsz2⟩ := wkF_inv (pa := pa) hI0 hj
        have hT : (if ¬ (wkF μ pa al sz j n rc).1 = 0 then rnL n rc k (wkF μ pa al sz j n rc).2.1 (wkF μ pa al sz j n rc).2.2.1 (wkF μ pa al sz j n rc).2.2.2 else (-3, (wkF μ pa al sz j n rc).2)) = T := hT
        have hTb : (wkF μ pa al sz j n rc).2.1 ≤ T.2.1 := by
          rw [← hT]; split
          · exact rnL_al _ _ _ _
          · exact Nat.le_refl _
        refine zz_astore_n C d_BT_run_61 rfl (by decide) rfl ?_
        refine zz_aload_n C d_BT_run_62 rfl rfl ?_
        refine zz_ifnonnull (tgt := 69) C d_BT_run_63 (by decide) ?_
        refine zz_aload_n C d_BT_run_69 rfl rfl ?_
        refine zz_get C d_BT_run_70 zf_BT_57 ((hR _).trans rfl) rfl ?_
        refine zz_aload_n C d_BT_run_73 rfl rfl ?_
        refine zz_callV C d_BT_run_74 mk_BT_137 zy_Se_workAt (kb := 17) (m_Se_workAt hR h1 h2 h3 hj hn h4 hrc h5) ⟨Nat.le_of_ble_eq_true rfl, Nat.le_of_ble_eq_true rfl⟩ ⟨by show 4 * (al - al0) + 4 * (_ - al) ≤ 4 * (T.2.1 - al0); omega, by show 30 * (al - al0) + 30 * (_ - al) ≤ 30 * (T.2.1 - al0); omega⟩ ((hR 17).trans rfl) rfl rfl rfl (Nat.le_of_ble_eq_true rfl) (fun r ad1 h1q q => ?_)
        obtain ⟨rfl, hag1, hR1⟩ := q
        have hR := hR1
        generalize hw : wkF μ pa al sz j n rc = t at hT hTb hI2 hR hwa
        rw [← hag1 0 (by omega)]
        show zz X E 4 ad1 (4 * (al - al0) + 4 * (t.2.1 - al)) (30 * (al - al0) + 30 * (t.2.1 - al)) 77 [some (.ref (ad1 0)), some (.int (nI wk)), some (.int (nI i)), some (.ref (ad (100 + 4 * j)))] [.int t.1] h1q
        rw [show 4 * (al - al0) + 4 * (t.2.1 - al) = 4 * (t.2.1 - al0) by omega, show 30 * (al - al0) + 30 * (t.2.1 - al) = 30 * (t.2.1 - al0) by omega]
        have hag2 : ∀ k, k < 100 + 4 * al0 → ad1 k = ad0 k := fun k hk => by rw [hag1 k (by omega), hag k hk]
        refine zz_if_ne (tgt := 83) C d_BT_run_77 (by decide) (fun c_77 => ?_) (fun c_77 => ?_)
        · rw [if_pos c_77] at hT
          refine zz_iinc C d_BT_run_83 rfl (nI_inc _) (by decide) rfl ?_
          refine zz_goto (tgt := 43) C d_BT_run_86 (by decide) ?_
          exact ih (i + 1) t.2.1 sz2 ad1 _ _ _ (by omega) hlt hI2 hT (by omega) hag2 _ hR
        · rw [if_neg (fun q => q c_77)] at hT
          subst hT
          refine zz_bipush (v := -3) C d_BT_run_80 (by decide) ?_
          refine zz_iret C Z d_BT_run_82 ?_
          exact hpost ad1 _ hag2 hR
set_option maxRecDepth 100000 in
set_option maxHeartbeats 4000000 in
theorem m_BT_run {ad : Nat → Nat} {al : Nat} {μ : Nat → Nat → Int32} {pa : Nat → Nat → Int64} {h : zH} (hR : zRep E ad al μ pa h) {sz n rc : Nat} {x : Int32} (hI : rI n rc al sz μ) (hn : n ≤ 8) (hrc : rc ≤ 16) : zMet l y_BT_run b_BT_run 4 (some .int) (gR 6 ((ruF μ pa al n rc x).2.1 - al)) E [.ref (ad 0), .int x] ad h (gPost E ad al (fun _ => some (.int (ruF μ pa al n rc x).1)) (ruF μ pa al n rc x).2.1 (ruF μ pa al n rc x).2.2.1 (ruF μ pa al n rc x).2.2.2) := by
  refine zMet.of (L := [some (.ref (ad 0)), some (.int x), none, none]) (by decide +kernel) (Nat.le_of_ble_eq_true rfl) rfl 2 rfl fun X hl C Z => ?_
  generalize hT : ruF μ pa al n rc x = T at Z C
  unfold ruF at hT
  obtain ⟨h1, h2, h3, h4, h5⟩ := id hI
  refine zz_iload_n C d_BT_run_0 rfl rfl ?_
  refine zz_iconst (v := 1) C d_BT_run_1 (by decide) ?_
  refine zz_icmp_lt (tgt := 22) C d_BT_run_2 (by decide) (fun c_2 => ?_) (fun c_2 => ?_)
  · refine zz_iconst (v := -1) C d_BT_run_22 (by decide) ?_
    simp only [c_2, if_true, if_false, not_true_eq_false, not_false_eq_true] at hT
    subst hT
    have Z := Z
    rw [show (gR 6 (al - al)).cells = 0 by simp [gR], show (gR 6 (al - al)).slots = 0 by simp [gR]] at Z
    refine zz_iret C Z d_BT_run_23 ?_
    exact ⟨rfl, fun _ _ => rfl, hR⟩
  · refine zz_iload_n C d_BT_run_5 rfl rfl ?_
    refine zz_sipush (v := 300) C d_BT_run_6 (by decide) ?_
    refine zz_icmp_gt (tgt := 22) C d_BT_run_9 (by decide) (fun c_9 => ?_) (fun c_9 => ?_)
    · refine zz_iconst (v := -1) C d_BT_run_22 (by decide) ?_
      simp only [c_2, c_9, if_true, if_false, not_true_eq_false, not_false_eq_true] at hT
      subst hT
      have Z := Z
      rw [show (gR 6 (al - al)).cells = 0 by simp [gR], show (gR 6 (al - al)).slots = 0 by simp [gR]] at Z
      refine zz_iret C Z d_BT_run_23 ?_
      exact ⟨rfl, fun _ _ => rfl, hR⟩
    · refine zz_aload_n C d_BT_run_12 rfl rfl ?_
      refine zz_get C d_BT_run_13 zf_BT_10 ((hR _).trans rfl) rfl ?_
      refine zz_get C d_BT_run_16 zf_BT_124 ((hR _).trans rfl) rfl ?_
      refine zz_if_ne (tgt := 24) C d_BT_run_19 (by decide) (fun c_19 => ?_) (fun c_19 => ?_)
      · simp only [c_2, c_9, c_19, if_true, if_false, not_true_eq_false, not_false_eq_true] at hT
        obtain ⟨wk, hwk, hx⟩ := nI_of2 (n := 300) (x := x) (M := 300) (by decide) (lt1_pos c_2) (gt300_le c_9)
        rw [hx, nI_clamp (by omega)] at hT
        subst hx
        have hTa : ra0 μ al ≤ T.2.1 := by rw [← hT]; exact rnL_al _ _ _ _
        refine zz_aload_n C d_BT_run_24 rfl rfl ?_
        refine zz_get C d_BT_run_25 zf_BT_33 ((hR _).trans rfl) rfl ?_
        refine zz_get C d_BT_run_28 zf_BT_127 ((hR _).trans rfl) rfl ?_
        refine zz_if_ne (tgt := 41) C d_BT_run_31 (by decide) (fun c_31 => ?_) (fun c_31 => ?_)
        · have e0 : ra0 μ al = al := if_pos c_31
          have e1 : rn0 μ al n rc = μ := if_pos c_31
          rw [e0, e1] at hT
          rw [e0] at hTa
          refine zz_iconst (v := 0) C d_BT_run_41 (by decide) ?_
          refine zz_istore_n C d_BT_run_42 rfl (by decide) rfl ?_
          have K := lp_BT_run (al0 := al) (ad0 := ad) C Z hn hrc hwk (fun ad' h' hag hR => ⟨rfl, hag, hR⟩) wk 0 al sz ad μ pa none rfl (Nat.zero_le _) hI hT (Nat.le_refl _) (fun _ _ => rfl) h hR
          rw [Nat.sub_self] at K
          exact K
        · have e0 : ra0 μ al = grA al 0 := if_neg (fun q => q c_31)
          have e1 : rn0 μ al n rc = prtF μ al n rc := if_neg (fun q => q c_31)
          rw [e0, e1] at hT
          rw [e0] at hTa
          have hz : sz = 0 := by
            rw [h1] at c_31; exact (nI_eq (by omega) (by omega)).mp (c_31.trans nI_0.symm)
          subst hz
          have hga : al ≤ grA al 0 := grA_ge
          refine zz_aload_n C d_BT_run_34 rfl rfl ?_
          refine zz_get C d_BT_run_35 zf_BT_57 ((hR _).trans rfl) rfl ?_
          refine zz_callV C d_BT_run_38 mk_BT_130 zy_Se_plantRoot (kb := 17) (m_Se_plantRoot hR h1 h3 hn h4 hrc h5) ⟨Nat.le_of_ble_eq_true rfl, Nat.le_of_ble_eq_true rfl⟩ ⟨by show 0 + 4 * (grA al 0 - al) ≤ 4 * (T.2.1 - al); omega, by show 0 + 30 * (grA al 0 - al) ≤ 30 * (T.2.1 - al); omega⟩ ((hR 17).trans rfl) rfl rfl rfl (Nat.le_of_ble_eq_true rfl) (fun r ad1 h1q q => ?_)
          obtain ⟨rfl, hag1, hR1⟩ := q
          have hR := hR1
          rw [← hag1 0 (by omega)]
          show zz X E 4 ad1 (0 + 4 * (grA al 0 - al)) (0 + 30 * (grA al 0 - al)) 41 [some (.ref (ad1 0)), some (.int (nI wk)), none, none] [] h1q
          rw [Nat.zero_add, Nat.zero_add]
          refine zz_iconst (v := 0) C d_BT_run_41 (by decide) ?_
          refine zz_istore_n C d_BT_run_42 rfl (by decide) rfl ?_
          exact lp_BT_run (al0 := al) (ad0 := ad) C Z hn hrc hwk (fun ad' h' hag hR => ⟨rfl, hag, hR⟩) wk 0 (grA al 0) 1 ad1 _ pa none rfl (Nat.zero_le _) (prtF_inv hI) hT hga hag1 _ hR
      · refine zz_iconst (v := -1) C d_BT_run_22 (by decide) ?_
        simp only [c_2, c_9, c_19, if_true, if_false, not_true_eq_false, not_false_eq_true] at hT
        subst hT
        have Z := Z
        rw [show (gR 6 (al - al)).cells = 0 by simp [gR], show (gR 6 (al - al)).slots = 0 by simp [gR]] at Z
        refine zz_iret C Z d_BT_run_23 ?_
        exact ⟨rfl, fun _ _ => rfl, hR⟩
end RUN
