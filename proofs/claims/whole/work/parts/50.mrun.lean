/-! MODEL: run -/
theorem cn_bd {V : Nat → Nat → Int32} : ∀ i, i ≤ 600 → 0 ≤ (cnF V 0 i).toInt ∧ (cnF V 0 i).toInt ≤ i
  | 0, _ => by simp only [cnF, i0]; omega
  | i + 1, h => by
    have ih := cn_bd (V := V) i (by omega)
    have e1 : (Int32.ofInt 1).toInt = 1 := by decide
    simp only [cnF]
    split
    · omega
    · rw [tI_add (by omega) (by omega), e1]; omega
theorem pk_cn {V : Nat → Nat → Int32} {rule : Int32} : ∀ i, i ≤ 600 → (pkF V rule i = none ↔ cnF V 0 i ≤ 0)
  | 0, _ => by simp [pkF, cnF]
  | i + 1, h => by
    have ih := pk_cn (V := V) (rule := rule) i (by omega)
    have hb := cn_bd (V := V) i (by omega)
    have e1 : (Int32.ofInt 1).toInt = 1 := by decide
    by_cases c : V (100 + 4 * i) 7 = 0
    · have g : ¬ cnF V 0 (i + 1) ≤ 0 := by
        simp only [cnF]
        rw [if_neg (fun q => q c), Int32.le_iff_toInt_le, tI_add (by omega) (by omega), e1, i0]; omega
      refine ⟨fun q => ?_, fun q => absurd q g⟩
      have q : pkS V rule i (pkF V rule i) = none := q
      cases hp : pkF V rule i with
      | none => rw [hp] at q; simp [pkS, c] at q
      | some q' =>
        rw [hp] at q
        by_cases c2 : ibF rule (V (100 + 4 * i) 8) (V (100 + 4 * q') 8) = 0
        · simp [pkS, c, c2] at q
        · simp [pkS, c, c2] at q
    · have g : cnF V 0 (i + 1) = cnF V 0 i := by simp only [cnF]; rw [if_pos c]
      have g2 : pkF V rule (i + 1) = pkF V rule i := by
        show pkS V rule i (pkF V rule i) = _
        cases hp : pkF V rule i with
        | none => simp [pkS, c]
        | some q' => simp [pkS, c]
      rw [g, g2]; exact ih
theorem wk_0 {V : Nat → Nat → Int32} {pv : Nat → Nat → Int64} {al sz j n rc : Nat} (h : (wkF V pv al sz j n rc).1 = 0) : wkF V pv al sz j n rc = (0, al, V, pv) := by
  have n1 : ¬ (1 : Int32) = 0 := by decide
  unfold wkF at h ⊢
  by_cases c1 : nabF (V 9 1) (V 9 2) (V (100 + 4 * j) 8) = 0
  · rw [if_pos c1] at h ⊢
    by_cases c2 : chO V pv j n = -2
    · rw [if_neg (fun q => q c2)] at h
      exact absurd h n1
    · rw [if_pos c2] at h ⊢
      by_cases c3 : (if 600 < V 14 1 + 2 then (0 : Int32) else 1) = 0
      · rw [if_pos c3]
      · rw [if_neg c3] at h
        exact absurd h n1
  · rw [if_neg c1] at h
    exact absurd h n1
theorem wk_fr {V : Nat → Nat → Int32} {pv : Nat → Nat → Int64} {al sz j n rc : Nat} : (∀ k, 40 ≤ k → k < 64 → (wkF V pv al sz j n rc).2.2.1 k = V k) ∧ (wkF V pv al sz j n rc).2.2.2 43 = pv 43 := by
  unfold wkF
  split
  · split
    · split
      · exact ⟨fun _ _ _ => rfl, rfl⟩
      · refine ⟨fun k h1 h2 => ?_, rfl⟩
        show wk1 (ptM _ _ _ _ _ _ _) k = _
        unfold wk1 ptM
        rw [va_up_ne _ _ (by omega), va_up_ne _ _ (by omega), pt2_fr (by omega) (by omega) (by omega) (by omega)]
    · refine ⟨fun k h1 h2 => ?_, rfl⟩
      show wk1 (tkF _ _ _) k = _
      unfold wk1
      rw [va_up_ne _ _ (by omega), tk_fr (by omega) (by omega), va_up_ne _ _ (by omega)]
  · refine ⟨fun k h1 h2 => ?_, rfl⟩
    show wk1 (va_up _ _ _) k = _
    unfold wk1
    rw [va_up_ne _ _ (by omega), va_up_ne _ _ (by omega)]
theorem rn_fr {n rc : Nat} : ∀ (k al : Nat) (V : Nat → Nat → Int32) (pv : Nat → Nat → Int64), (∀ i, 40 ≤ i → i < 64 → (rnL n rc k al V pv).2.2.1 i = V i) ∧ (rnL n rc k al V pv).2.2.2 43 = pv 43
  | 0, al, V, pv => ⟨fun _ _ _ => rfl, rfl⟩
  | k + 1, al, V, pv => by
    unfold rnL
    cases pkF V (V 22 0) (szO V) with
    | none => exact ⟨fun _ _ _ => rfl, rfl⟩
    | some j =>
      have h1 := wk_fr (V := V) (pv := pv) (al := al) (sz := szO V) (j := j) (n := n) (rc := rc)
      show (∀ i, 40 ≤ i → i < 64 → (if ¬ (wkF V pv al (szO V) j n rc).1 = 0 then rnL n rc k (wkF V pv al (szO V) j n rc).2.1 (wkF V pv al (szO V) j n rc).2.2.1 (wkF V pv al (szO V) j n rc).2.2.2 else (-3, (wkF V pv al (szO V) j n rc).2)).2.2.1 i = V i) ∧ (if ¬ (wkF V pv al (szO V) j n rc).1 = 0 then rnL n rc k (wkF V pv al (szO V) j n rc).2.1 (wkF V pv al (szO V) j n rc).2.2.1 (wkF V pv al (szO V) j n rc).2.2.2 else (-3, (wkF V pv al (szO V) j n rc).2)).2.2.2 43 = pv 43
      split
      · have h2 := rn_fr (n := n) (rc := rc) k (wkF V pv al (szO V) j n rc).2.1 (wkF V pv al (szO V) j n rc).2.2.1 (wkF V pv al (szO V) j n rc).2.2.2
        exact ⟨fun i a b => (h2.1 i a b).trans (h1.1 i a b), h2.2.trans h1.2⟩
      · exact h1
theorem ru_fr {V : Nat → Nat → Int32} {pv : Nat → Nat → Int64} {al n rc : Nat} {x : Int32} : (∀ i, 40 ≤ i → i < 64 → (ruF V pv al n rc x).2.2.1 i = V i) ∧ (ruF V pv al n rc x).2.2.2 43 = pv 43 := by
  unfold ruF
  split
  · exact ⟨fun _ _ _ => rfl, rfl⟩
  · split
    · exact ⟨fun _ _ _ => rfl, rfl⟩
    · split
      · have h := rn_fr (n := n) (rc := rc) x.toNatClampNeg (ra0 V al) (rn0 V al n rc) pv
        refine ⟨fun i a b => (h.1 i a b).trans ?_, h.2⟩
        unfold rn0
        split
        · rfl
        · unfold prtF; rw [nsF_fr (by omega) (by omega), rtF_fr (by omega), grF_fr (by omega) (by omega)]
      · exact ⟨fun _ _ _ => rfl, rfl⟩
theorem ru_m1 {V : Nat → Nat → Int32} {pv : Nat → Nat → Int64} {al n rc : Nat} {x : Int32} (h : inF x 1 300 = 0 ∨ V 1 7 = 0) : ruF V pv al n rc x = (-1, al, V, pv) := by
  unfold ruF
  by_cases c1 : x < 1
  · rw [if_pos c1]
  · rw [if_neg c1]
    by_cases c2 : 300 < x
    · rw [if_pos c2]
    · rw [if_neg c2]
      rcases h with h | h
      · unfold inF at h; rw [if_neg c1, if_neg c2] at h; exact absurd h (by decide)
      · rw [if_neg (fun q => q h)]
theorem ru_go {V : Nat → Nat → Int32} {pv : Nat → Nat → Int64} {al n rc : Nat} {x : Int32} (h : ¬ inF x 1 300 = 0) (h7 : ¬ V 1 7 = 0) : ∃ wk : Nat, wk ≤ 300 ∧ x = nI wk ∧ ruF V pv al n rc x = rnL n rc wk (ra0 V al) (rn0 V al n rc) pv := by
  unfold inF at h
  by_cases c1 : x < 1
  · rw [if_pos c1] at h; exact absurd rfl h
  · rw [if_neg c1] at h
    by_cases c2 : 300 < x
    · rw [if_pos c2] at h; exact absurd rfl h
    · obtain ⟨wk, hwk, hx⟩ := nI_of2 (n := 300) (x := x) (M := 300) (by decide) (lt1_pos c1) (gt300_le c2)
      refine ⟨wk, hwk, hx, ?_⟩
      unfold ruF
      rw [if_neg c1, if_neg c2, if_pos h7, hx, nI_clamp (by omega)]
section MRUN
variable {l : Launch} {E : zE} {ad : Nat → Nat} {n rc sz al al2 c : Nat} {V μ : Nat → Nat → Int32} {pv pa : Nat → Nat → Int64}
set_option maxRecDepth 100000 in
set_option maxHeartbeats 4000000 in
theorem en_Mo_run {X : zX} {post : Option Value → (Nat → Nat) → zH → Prop} (C : zc X E b_Mo_run 4 "BranchTreesModel" (zR 5)) (Z : zr X E (some .int) 0 0 post) {wk i : Nat} {w : Option Value} (hC : CI n rc sz al c V) (hM : MM n rc sz V pv μ pa) (hpost : ∀ m h, sc μ m → zRep E ad al2 m pa h → post (some (.int (enF V))) ad h) :
    ∀ h, zRep E ad al2 μ pa h → zz X E 4 ad 0 0 88 [some (.ref (ad 40)), some (.int (nI wk)), some (.int (nI i)), w] [] h := by
  intro h hR
  have hs0 : szO V = sz := by unfold szO; rw [hC.S, nI_clamp (by have := hC.sz6; omega)]
  have hpc := pk_cn (V := V) (rule := V 22 0) sz hC.sz6
  refine zz_aload_n C d_Mo_run_88 rfl rfl ?_
  refine zz_callVs (e := 2) C hR d_Mo_run_89 mk_Mo_187 zy_Mo_pick (m_Mo_pick hC.n8 hM.1 hM.2.2.1 hC.sz6 hC.tB hC.fc (hM.2.2.2.2.1.2 0 (by decide))) ⟨by decide, by decide⟩ ⟨Nat.zero_le _, Nat.zero_le _⟩ rfl rfl rfl rfl (Nat.le_of_ble_eq_true rfl) (fun h m hs hR => ?_)
  have hM := hM.sc hs
  have hpost := hpost m h hs hR
  unfold enF at hpost
  rw [hs0] at hpost
  cases hp : pkF V (V 22 0) sz with
  | none =>
    rw [if_pos (hpc.mp hp)] at hpost
    refine zz_if_lt (tgt := 99) C d_Mo_run_92 (by decide) (fun c_92 => ?_) (fun c_92 => ?_)
    · skip
      refine zz_aload_n C d_Mo_run_99 rfl rfl ?_
      refine zz_getV C hR (V 9 1) _ d_Mo_run_100 zf_Mo_98 rfl rfl hM.2.1.1 ?_
      refine zz_if_eq (tgt := 110) C d_Mo_run_103 (by decide) (fun c_103 => ?_) (fun c_103 => ?_)
      · rw [if_pos c_103] at hpost
        refine zz_iconst (v := 0) C d_Mo_run_110 (by decide) ?_
        refine zz_iret C Z d_Mo_run_111 ?_
        exact hpost
      · rw [if_neg c_103] at hpost
        refine zz_iconst (v := 1) C d_Mo_run_106 (by decide) ?_
        refine zz_goto (tgt := 111) C d_Mo_run_107 (by decide) ?_
        refine zz_iret C Z d_Mo_run_111 ?_
        exact hpost
    · exact absurd (by decide) c_92
  | some q =>
    rw [if_neg (fun z => by rw [hpc.mpr z] at hp; exact absurd hp (by simp))] at hpost
    refine zz_if_lt (tgt := 99) C d_Mo_run_92 (by decide) (fun c_92 => ?_) (fun c_92 => ?_)
    · exact absurd c_92 (i32_nlt (nI_le (a := 0) (Nat.zero_le q) (by have := pkF_lt hp; have := hC.sz6; omega)))
    · refine zz_iconst (v := 2) C d_Mo_run_95 (by decide) ?_
      refine zz_goto (tgt := 111) C d_Mo_run_96 (by decide) ?_
      refine zz_iret C Z d_Mo_run_111 ?_
      exact hpost
set_option maxRecDepth 100000 in
set_option maxHeartbeats 4000000 in
theorem lp_Mo_run {X : zX} {post : Option Value → (Nat → Nat) → zH → Prop} (C : zc X E b_Mo_run 4 "BranchTreesModel" (zR 5)) (Z : zr X E (some .int) 0 0 post) {T : zQ} {wk : Nat} (hwk : wk ≤ 300) (hc : c ≤ 1000000) {μ0 : Nat → Nat → Int32} {pa0 : Nat → Nat → Int64}
    (hpost : ∀ m pm h, fx μ0 pa0 m pm → (∃ s, CI n rc s T.2.1 c T.2.2.1 ∧ MM n rc s T.2.2.1 T.2.2.2 m pm) → zRep E ad al2 m pm h → post (some (.int T.1)) ad h) :
    ∀ (k i al sz d : Nat) (V μ : Nat → Nat → Int32) (pv pa : Nat → Nat → Int64) (w : Option Value), wk - i = k → i ≤ wk → d + k ≤ c → CI n rc sz al d V → MM n rc sz V pv μ pa → rnL n rc k al V pv = T → fx μ0 pa0 μ pa → ∀ h, zRep E ad al2 μ pa h → zz X E 4 ad 0 0 44 [some (.ref (ad 40)), some (.int (nI wk)), some (.int (nI i)), w] [] h := by
  intro k
  induction k with
  | zero =>
    intro i al sz d V μ pv pa w hk hin hdk hC hM hT hf h hR
    have e : i = wk := by omega
    subst e
    refine zz_iload_n C d_Mo_run_44 rfl rfl ?_
    refine zz_iload_n C d_Mo_run_45 rfl rfl ?_
    refine zz_icmp_ge (tgt := 88) C d_Mo_run_46 (by decide) (fun c_46 => ?_) (fun c_46 => ?_)
    · refine en_Mo_run C Z hC hM (fun m2 h hs2 hR => ?_) h hR
      subst hT
      exact hpost m2 pa h (hf.tr (fx.sc hs2)) ⟨sz, hC.mono (by omega), hM.sc hs2⟩ hR
    · exact absurd (nI_le (Nat.le_refl _) (by omega)) c_46
  | succ k ih =>
    intro i al sz d V μ pv pa w hk hin hdk hC hM hT hf h hR
    have hlt : i < wk := by omega
    have h6 := hC.sz6
    have hs0 : szO V = sz := by unfold szO; rw [hC.S, nI_clamp (by omega)]
    unfold rnL at hT
    rw [hs0] at hT
    refine zz_iload_n C d_Mo_run_44 rfl rfl ?_
    refine zz_iload_n C d_Mo_run_45 rfl rfl ?_
    refine zz_icmp_ge (tgt := 88) C d_Mo_run_46 (by decide) (fun c_46 => ?_) (fun c_46 => ?_)
    · exact absurd c_46 (nI_ge hlt (by omega))
    · refine zz_aload_n C d_Mo_run_49 rfl rfl ?_
      refine zz_callVs (e := 2) C hR d_Mo_run_50 mk_Mo_187 zy_Mo_pick (m_Mo_pick hC.n8 hM.1 hM.2.2.1 hC.sz6 hC.tB hC.fc (hM.2.2.2.2.1.2 0 (by decide))) ⟨by decide, by decide⟩ ⟨Nat.zero_le _, Nat.zero_le _⟩ rfl rfl rfl rfl (Nat.le_of_ble_eq_true rfl) (fun h m hs hR => ?_)
      have hM := hM.sc hs
      have hf := hf.tr (fx.sc hs)
      cases hp : pkF V (V 22 0) sz with
      | none =>
        rw [hp] at hT
        refine zz_istore_n C d_Mo_run_53 rfl (by decide) rfl ?_
        refine zz_iload_n C d_Mo_run_54 rfl rfl ?_
        refine zz_if_ge (tgt := 61) C d_Mo_run_55 (by decide) (fun c_55 => ?_) (fun c_55 => ?_)
        · exact absurd c_55 (by decide)
        · refine zz_goto (tgt := 88) C d_Mo_run_58 (by decide) ?_
          refine en_Mo_run C Z hC hM (fun m2 h hs2 hR => ?_) h hR
          subst hT
          exact hpost m2 pa h (hf.tr (fx.sc hs2)) ⟨sz, hC.mono (by omega), hM.sc hs2⟩ hR
      | some j =>
        have hj := pkF_lt hp
        rw [hp] at hT
        have hT : (if ¬ (wkF V pv al sz j n rc).1 = 0 then rnL n rc k (wkF V pv al sz j n rc).2.1 (wkF V pv al sz j n rc).2.2.1 (wkF V pv al sz j n rc).2.2.2 else (-3, (wkF V pv al sz j n rc).2)) = T := hT
        have hw0 := wk_0 (V := V) (pv := pv) (al := al) (sz := sz) (j := j) (n := n) (rc := rc)
        refine zz_istore_n C d_Mo_run_53 rfl (by decide) rfl ?_
        refine zz_iload_n C d_Mo_run_54 rfl rfl ?_
        refine zz_if_ge (tgt := 61) C d_Mo_run_55 (by decide) (fun c_55 => ?_) (fun c_55 => ?_)
        · refine zz_aload_n C d_Mo_run_61 rfl rfl ?_
          refine zz_iload_n C d_Mo_run_62 rfl rfl ?_
          refine zz_callV C d_Mo_run_63 mk_Mo_190 zy_Mo_work (kb := 40) (m_Mo_work hC hM (by omega) hj h hR) ⟨by decide, by decide⟩ ⟨Nat.le_of_ble_eq_true rfl, Nat.le_of_ble_eq_true rfl⟩ ((hR 40).trans rfl) rfl rfl rfl (Nat.le_of_ble_eq_true rfl) (fun r ad1 h1 q => ?_)
          obtain ⟨rfl, rfl, m2, pm, hf2, hR2, hO⟩ := q
          generalize hw : wkF V pv al sz j n rc = t at hT hw0 hO
          have hR := hR2
          show zz X E 4 _ 0 0 66 _ [.int t.1] h1
          refine zz_if_ne (tgt := 72) C d_Mo_run_66 (by decide) (fun c_66 => ?_) (fun c_66 => ?_)
          · rw [if_pos c_66] at hT
            rcases hO with ⟨z, -⟩ | ⟨-, s, k1, k2⟩
            · exact absurd z c_66
            refine zz_aload_n C d_Mo_run_72 rfl rfl ?_
            refine zz_dup C d_Mo_run_73 rfl ?_
            refine zz_get C d_Mo_run_74 zf_Mo_95 ((hR _).trans rfl) rfl ?_
            refine zz_iconst (v := 1) C d_Mo_run_77 (by decide) ?_
            refine zz_iadd C d_Mo_run_78 ?_
            refine zz_putI C hR d_Mo_run_79 zp_Mo_95 rfl rfl rfl (Nat.le_of_ble_eq_true rfl) rfl (fun h hR => ?_)
            refine zz_iinc C d_Mo_run_82 rfl (nI_inc _) (by decide) rfl ?_
            refine zz_goto (tgt := 44) C d_Mo_run_85 (by decide) ?_
            exact ih (i + 1) t.2.1 s (d + 1) _ _ _ _ _ (by omega) hlt (by omega) k1 k2 hT ((hf.tr hf2).up ⟨by decide, by decide⟩) _ hR
          · rw [if_neg (fun q => q c_66)] at hT
            rw [hw0 c_66] at hT
            subst hT
            rcases hO with ⟨-, k2⟩ | ⟨z, -⟩
            case inr => rw [c_66] at z; exact absurd z (by decide)
            refine zz_bipush (v := -3) C d_Mo_run_69 (by decide) ?_
            refine zz_iret C Z d_Mo_run_71 ?_
            exact hpost m2 pm _ (hf.tr hf2) ⟨sz, hC.mono (by omega), k2⟩ hR
        · exact absurd (nI_le (a := 0) (Nat.zero_le j) (by omega)) c_55
set_option maxRecDepth 100000 in
set_option maxHeartbeats 4000000 in
theorem m_Mo_run {x : Int32} (hC : CI n rc sz al c V) (hM : MM n rc sz V pv μ pa) (hc : c + 300 ≤ 1000000) : xMet l y_Mo_run b_Mo_run 4 (zR 5) E [.ref (ad 40), .int x] ad al2 μ pa (ruF V pv al n rc x).1 (fun m pm => ∃ s, CI n rc s (ruF V pv al n rc x).2.1 (c + 300) (ruF V pv al n rc x).2.2.1 ∧ MM n rc s (ruF V pv al n rc x).2.2.1 (ruF V pv al n rc x).2.2.2 m pm) := by
  have h8 := hC.n8
  intro h hR
  refine zMet.of (L := [some (.ref (ad 40)), some (.int x), none, none]) (by decide +kernel) (Nat.le_of_ble_eq_true rfl) rfl 2 rfl fun X hl C Z => ?_
  refine zz_aload_n C d_Mo_run_0 rfl rfl ?_
  refine zz_iconst (v := 0) C d_Mo_run_1 (by decide) ?_
  refine zz_putI C hR d_Mo_run_2 zp_Mo_1 rfl rfl rfl (Nat.le_of_ble_eq_true rfl) rfl (fun h hR => ?_)
  have hR : zRep E ad al2 (th μ) pa h := hR
  have hM := hM.sc th_sc
  refine zz_iload_n C d_Mo_run_5 rfl rfl ?_
  refine zz_i2l C d_Mo_run_6 ?_
  refine zz_lconst (v := 1) C d_Mo_run_7 (by decide) ?_
  refine zz_ldc2 C _ d_Mo_run_8 co_Mo_185 ?_
  refine zz_callSr (e := 0) C hR d_Mo_run_11 mk_Mo_88 zy_Mo_in (m_Mo_in (x := x) (y := 1) (z := 300) rfl rfl rfl) ⟨by decide, by decide⟩ ⟨Nat.zero_le _, Nat.zero_le _⟩ rfl rfl (Nat.le_of_ble_eq_true rfl) ?_
  refine zz_if_eq (tgt := 24) C d_Mo_run_14 (by decide) (fun c_14 => ?_) (fun c_14 => ?_)
  · refine zz_iconst (v := -1) C d_Mo_run_24 (by decide) ?_
    refine zz_iret C Z d_Mo_run_25 ?_
    have e := ru_m1 (V := V) (pv := pv) (al := al) (n := n) (rc := rc) (x := x) (Or.inl c_14)
    rw [e]
    exact ⟨rfl, rfl, th μ, pa, th_fx, ⟨sz, hC.mono (by omega), hM⟩, hR⟩
  · refine zz_aload_n C d_Mo_run_17 rfl rfl ?_
    refine zz_getV C hR (nI n) _ d_Mo_run_18 zf_Mo_85 rfl rfl hM.N ?_
    refine zz_if_ne (tgt := 26) C d_Mo_run_21 (by decide) (fun c_21 => ?_) (fun c_21 => ?_)
    · have h7 : ¬ V 1 7 = 0 := by rw [hC.N]; exact c_21
      obtain ⟨wk, hwk, hx, e⟩ := ru_go (V := V) (pv := pv) (al := al) (n := n) (rc := rc) c_14 h7
      subst hx
      refine zz_aload_n C d_Mo_run_26 rfl rfl ?_
      refine zz_getV C hR (nI sz) _ d_Mo_run_27 zf_Mo_92 rfl rfl hM.S ?_
      refine zz_if_ne (tgt := 42) C d_Mo_run_30 (by decide) (fun c_30 => ?_) (fun c_30 => ?_)
      · have z0 : ¬ V 14 1 = 0 := by rw [hC.S]; exact c_30
        have e0 : ra0 V al = al := if_pos z0
        have e1 : rn0 V al n rc = V := if_pos z0
        rw [e0, e1] at e
        refine zz_iconst (v := 0) C d_Mo_run_42 (by decide) ?_
        refine zz_istore_n C d_Mo_run_43 rfl (by decide) rfl ?_
        exact lp_Mo_run C Z hwk hc (fun m pm h hf hq hR => ⟨rfl, rfl, m, pm, hf, hq, hR⟩) wk 0 al sz c V _ pv pa _ rfl (Nat.zero_le _) (by omega) hC hM e.symm th_fx h hR
      · have z0 : V 14 1 = 0 := by rw [hC.S]; exact c_30
        have e0 : ra0 V al = grA al 0 := if_neg (fun q => q z0)
        have e1 : rn0 V al n rc = prtF V al n rc := if_neg (fun q => q z0)
        rw [e0, e1] at e
        have hz : sz = 0 := (nI_eq (by have := hC.sz6; omega) (by omega)).mp (c_30.trans nI_0.symm)
        subst hz
        obtain ⟨k1, k2, k3⟩ := root_ok hC hM
        refine zz_aload_n C d_Mo_run_33 rfl rfl ?_
        refine zz_iconst (v := -1) C d_Mo_run_34 (by decide) ?_
        refine zz_iconst (v := -1) C d_Mo_run_35 (by decide) ?_
        refine zz_iconst (v := 0) C d_Mo_run_36 (by decide) ?_
        refine zz_iconst (v := 0) C d_Mo_run_37 (by decide) ?_
        refine zz_callVw (e := 3) C hR d_Mo_run_38 mk_Mo_181 zy_Mo_newNode (m_Mo_newNode_root hC.vR hM.1 hC.sR hM.2.1 hM.S (by decide) k3) ⟨by decide, by decide⟩ ⟨Nat.zero_le _, Nat.zero_le _⟩ rfl rfl rfl rfl (Nat.le_of_ble_eq_true rfl) (fun h hR => ?_)
        refine zz_istore_n C d_Mo_run_41 rfl (by decide) rfl ?_
        refine zz_iconst (v := 0) C d_Mo_run_42 (by decide) ?_
        refine zz_istore_n C d_Mo_run_43 rfl (by decide) rfl ?_
        exact lp_Mo_run C Z hwk hc (fun m pm h hf hq hR => ⟨rfl, rfl, m, pm, hf, hq, hR⟩) wk 0 (grA al 0) 1 c _ _ pv pa _ rfl (Nat.zero_le _) (by omega) k1 k2 e.symm (th_fx.tr nnR_fx) h hR
    · refine zz_iconst (v := -1) C d_Mo_run_24 (by decide) ?_
      refine zz_iret C Z d_Mo_run_25 ?_
      have e := ru_m1 (V := V) (pv := pv) (al := al) (n := n) (rc := rc) (x := x) (Or.inr (by rw [hC.N]; exact c_21))
      rw [e]
      exact ⟨rfl, rfl, th μ, pa, th_fx, ⟨sz, hC.mono (by omega), hM⟩, hR⟩
theorem s_run {x : Int32} (hC : CI n rc sz al c V) (hM : MM n rc sz V pv μ pa) (hc : c + 300 ≤ 1000000) : (∀ k, 40 ≤ k → k < 64 → (ruF V pv al n rc x).2.2.1 k = V k) ∧ (ruF V pv al n rc x).2.2.2 43 = pv 43 ∧ xMet l y_Mo_run b_Mo_run 4 (zR 5) E [.ref (ad 40), .int x] ad al2 μ pa (ruF V pv al n rc x).1 (fun m pm => ∃ s, CI n rc s (ruF V pv al n rc x).2.1 (c + 300) (ruF V pv al n rc x).2.2.1 ∧ MM n rc s (ruF V pv al n rc x).2.2.1 (ruF V pv al n rc x).2.2.2 m pm) := ⟨ru_fr.1, ru_fr.2, m_Mo_run hC hM hc⟩
end MRUN
