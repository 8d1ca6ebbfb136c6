/-! PROBLEM, second half -/
theorem naL_spec (μ : Nat → Nat → Int32) (n rc a : Nat) : ∀ k j : Nat, naL μ n rc a k j = -2 ∨ ∃ q : Nat, j ≤ q ∧ q < j + k ∧ naL μ n rc a k j = nI q
  | 0, j => Or.inl rfl
  | k + 1, j => by
    unfold naL
    split
    · rcases naL_spec μ n rc a k (j + 1) with h | ⟨q, h1, h2, h3⟩
      · exact Or.inl h
      · exact Or.inr ⟨q, by omega, by omega, h3⟩
    · exact Or.inr ⟨j, Nat.le_refl _, by omega, rfl⟩
def aosF (n : Nat) : Nat → Nat → (Nat → Nat → Int32) → Nat → (Nat → Nat → Int32)
  | 0, _, m, _ => m
  | k + 1, a, m, rc => if naL m n rc a (n - (a + 1)) (a + 1) = -2 then aosF n k (a + 1) m rc else aosF n k (a + 1) (aoF m rc a (naL m n rc a (n - (a + 1)) (a + 1)).toNatClampNeg) (if rc < 16 then rc + 1 else rc)
theorem aoF_17 {μ : Nat → Nat → Int32} {rc a b : Nat} : aoF μ rc a b 1 7 = μ 1 7 := by
  unfold aoF
  split
  · simp [ao2, ao1, arF, va_up, upd]
    rw [if_neg (by omega), if_neg (by omega)]
    first | rfl | simp
  · rfl
theorem aoF_18 {μ : Nat → Nat → Int32} {rc a b : Nat} (h : μ 1 8 = nI rc) : aoF μ rc a b 1 8 = nI (if rc < 16 then rc + 1 else rc) := by
  unfold aoF
  split
  · simp [ao2, ao1, arF, va_up, upd]
    rw [if_neg (by omega), if_neg (by omega)]
    first | rfl | simp
  · exact h
/-- does the value keep the spans, from i on -/
def spL (lo hi v : Nat → Int32) : Nat → Nat → Int32
  | 0, _ => 1
  | k + 1, i => if v i < lo i then 0 else if v i ≤ hi i then spL lo hi v k (i + 1) else 0
/-- does the sum keep the row -/
def okR (sense sum right : Int32) : Int32 := if bindsF sense 1 = 0 then (if bindsF sense (-1) = 0 then 1 else if right ≤ sum then 1 else 0) else if right < sum then 0 else (if bindsF sense (-1) = 0 then 1 else if right ≤ sum then 1 else 0)
def rwL (μ : Nat → Nat → Int32) (kv n : Nat) : Nat → Nat → Int32
  | 0, _ => 1
  | k + 1, r => if okR (μ 5 r) (sumF (μ (24 + r)) (μ kv) n) (μ 6 r) = 0 then 0 else rwL μ kv n k (r + 1)
def plF (μ : Nat → Nat → Int32) (kv n rc : Nat) : Int32 := if spL (μ 2) (μ 3) (μ kv) n 0 = 0 then 0 else rwL μ kv n rc 0
section PROBLEM2
variable {l : Launch} {E : zE} {ad : Nat → Nat} {al : Nat} {μ : Nat → Nat → Int32} {pa : Nat → Nat → Int64}
set_option maxRecDepth 100000 in
set_option maxHeartbeats 4000000 in
theorem lp_Pb_timesFound {X : zX} {h : zH} {post : Option Value → (Nat → Nat) → zH → Prop} (C : zc X E b_Pb_timesFound 6 "BranchTrees$Problem" (zR 1)) (Z : zr X E (some .int) 0 0 post) {n rc r a b : Nat} (hn : n ≤ 8) (hN : μ 1 7 = nI n) (hrc : rc ≤ 16) (hM : μ 1 8 = nI rc) (hr : r < 16) (ha : a < n) (hb : b < n) (hR : zRep E ad al μ pa h) (hpost : post (some (.int (tfF μ n r a b rc))) ad h) :
    ∀ (k i : Nat), rc - i = k → i ≤ rc → zz X E 6 ad 0 0 6 [some (.ref (ad 1)), some (.int (nI r)), some (.int (nI a)), some (.int (nI b)), some (.int (tfF μ n r a b i)), some (.int (nI i))] [] h := by
  intro k
  induction k with
  | zero =>
    intro i hk hin
    have e : i = rc := by omega
    subst e
    refine zz_iload C d_Pb_timesFound_6 rfl ?_
    refine zz_aload_n C d_Pb_timesFound_8 rfl rfl ?_
    refine zz_get C d_Pb_timesFound_9 zf_Pb_40 ((hR _).trans rfl) rfl ?_
    refine zz_icmp_ge (tgt := 46) C d_Pb_timesFound_12 (by decide) (fun c_12 => ?_) (fun c_12 => ?_)
    · refine zz_iload C d_Pb_timesFound_46 rfl ?_
      refine zz_iret C Z d_Pb_timesFound_48 ?_
      exact hpost
    · exact absurd (by rw [hM]; exact nI_le (Nat.le_refl _) (by omega)) c_12
  | succ k ih =>
    intro i hk hin
    have hlt : i < rc := by omega
    have K := ih (i + 1) (by omega) hlt
    refine zz_iload C d_Pb_timesFound_6 rfl ?_
    refine zz_aload_n C d_Pb_timesFound_8 rfl rfl ?_
    refine zz_get C d_Pb_timesFound_9 zf_Pb_40 ((hR _).trans rfl) rfl ?_
    refine zz_icmp_ge (tgt := 46) C d_Pb_timesFound_12 (by decide) (fun c_12 => ?_) (fun c_12 => ?_)
    · exact absurd (by rw [hM] at c_12; exact c_12) (nI_ge hlt (by omega))
    · refine zz_aload_n C d_Pb_timesFound_15 rfl rfl ?_
      refine zz_get C d_Pb_timesFound_16 zf_Pb_27 ((hR _).trans rfl) rfl ?_
      refine zz_iload C d_Pb_timesFound_19 rfl ?_
      refine zz_zaldR (j := i) C hR d_Pb_timesFound_21 (fun _ _ => rfl) rfl (by omega) (by decide) ?_
      refine zz_if_ne (tgt := 40) C d_Pb_timesFound_22 (by decide) (fun c_22 => ?_) (fun c_22 => ?_)
      · refine zz_iinc C d_Pb_timesFound_40 rfl (nI_inc _) (by decide) rfl ?_
        refine zz_goto (tgt := 6) C d_Pb_timesFound_43 (by decide) ?_
        simp only [tfF, c_12, c_22, if_true, if_false, not_true_eq_false, not_false_eq_true] at K
        exact K
      · refine zz_aload_n C d_Pb_timesFound_25 rfl rfl ?_
        refine zz_iload_n C d_Pb_timesFound_26 rfl rfl ?_
        refine zz_iload C d_Pb_timesFound_27 rfl ?_
        refine zz_iload_n C d_Pb_timesFound_29 rfl rfl ?_
        refine zz_iload_n C d_Pb_timesFound_30 rfl rfl ?_
        refine zz_callVr (e := 0) C hR d_Pb_timesFound_31 mk_Pb_66 zy_Pb_isSwapped (m_Pb_isSwapped hn hN hr (by omega) ha hb) ⟨by decide, by decide⟩ ⟨Nat.zero_le _, Nat.zero_le _⟩ rfl rfl rfl rfl (Nat.le_of_ble_eq_true rfl) ?_
        refine zz_if_eq (tgt := 40) C d_Pb_timesFound_34 (by decide) (fun c_34 => ?_) (fun c_34 => ?_)
        · refine zz_iinc C d_Pb_timesFound_40 rfl (nI_inc _) (by decide) rfl ?_
          refine zz_goto (tgt := 6) C d_Pb_timesFound_43 (by decide) ?_
          simp only [tfF, c_12, c_22, c_34, if_true, if_false, not_true_eq_false, not_false_eq_true] at K
          exact K
        · refine zz_iinc C d_Pb_timesFound_37 rfl rfl (by decide) rfl ?_
          refine zz_iinc C d_Pb_timesFound_40 rfl (nI_inc _) (by decide) rfl ?_
          refine zz_goto (tgt := 6) C d_Pb_timesFound_43 (by decide) ?_
          simp only [tfF, c_12, c_22, c_34, if_true, if_false, not_true_eq_false, not_false_eq_true] at K
          exact K
set_option maxRecDepth 100000 in
set_option maxHeartbeats 4000000 in
theorem m_Pb_timesFound {n rc r a b : Nat} (hn : n ≤ 8) (hN : μ 1 7 = nI n) (hrc : rc ≤ 16) (hM : μ 1 8 = nI rc) (hr : r < 16) (ha : a < n) (hb : b < n) : rMet l y_Pb_timesFound b_Pb_timesFound 6 (some .int) (zR 1) E [.ref (ad 1), .int (nI r), .int (nI a), .int (nI b)] ad al μ pa (.int (tfF μ n r a b rc)) := by
  intro h hR
  refine zMet.of (L := [some (.ref (ad 1)), some (.int (nI r)), some (.int (nI a)), some (.int (nI b)), none, none]) (by decide +kernel) (Nat.le_of_ble_eq_true rfl) rfl 2 rfl fun X hl C Z => ?_
  refine zz_iconst (v := 0) C d_Pb_timesFound_0 (by decide) ?_
  refine zz_istore C d_Pb_timesFound_1 (by decide) rfl ?_
  refine zz_iconst (v := 0) C d_Pb_timesFound_3 (by decide) ?_
  refine zz_istore C d_Pb_timesFound_4 (by decide) rfl ?_
  exact lp_Pb_timesFound C Z hn hN hrc hM hr ha hb hR ⟨rfl, rfl, rfl⟩ rc 0 rfl (Nat.zero_le _)
set_option maxRecDepth 100000 in
set_option maxHeartbeats 4000000 in
theorem lp_Pb_canSwap {X : zX} {h : zH} {post : Option Value → (Nat → Nat) → zH → Prop} (C : zc X E b_Pb_canSwap 4 "BranchTrees$Problem" (zR 2)) (Z : zr X E (some .boolean) 0 0 post) {n rc a b : Nat} (hn : n ≤ 8) (hN : μ 1 7 = nI n) (hrc : rc ≤ 16) (hM : μ 1 8 = nI rc) (ha : a < n) (hb : b < n) (hR : zRep E ad al μ pa h) {T : Int32} (hpost : post (some (.int T)) ad h) :
    ∀ (k i : Nat), rc - i = k → i ≤ rc → csL μ n rc a b k i = T → zz X E 4 ad 0 0 49 [some (.ref (ad 1)), some (.int (nI a)), some (.int (nI b)), some (.int (nI i))] [] h := by
  intro k
  induction k with
  | zero =>
    intro i hk hin hT
    have e : i = rc := by omega
    subst e
    simp only [csL] at hT
    refine zz_iload_n C d_Pb_canSwap_49 rfl rfl ?_
    refine zz_aload_n C d_Pb_canSwap_50 rfl rfl ?_
    refine zz_get C d_Pb_canSwap_51 zf_Pb_40 ((hR _).trans rfl) rfl ?_
    refine zz_icmp_ge (tgt := 91) C d_Pb_canSwap_54 (by decide) (fun c_54 => ?_) (fun c_54 => ?_)
    · refine zz_iconst (v := 1) C d_Pb_canSwap_91 (by decide) ?_
      refine zz_zret C Z d_Pb_canSwap_92 (by first | rfl | decide | assumption) ?_
      exact hT ▸ hpost
    · exact absurd (by rw [hM]; exact nI_le (Nat.le_refl _) (by omega)) c_54
  | succ k ih =>
    intro i hk hin hT
    have hlt : i < rc := by omega
    simp only [csL] at hT
    refine zz_iload_n C d_Pb_canSwap_49 rfl rfl ?_
    refine zz_aload_n C d_Pb_canSwap_50 rfl rfl ?_
    refine zz_get C d_Pb_canSwap_51 zf_Pb_40 ((hR _).trans rfl) rfl ?_
    refine zz_icmp_ge (tgt := 91) C d_Pb_canSwap_54 (by decide) (fun c_54 => ?_) (fun c_54 => ?_)
    · exact absurd (by rw [hM] at c_54; exact c_54) (nI_ge hlt (by omega))
    · refine zz_aload_n C d_Pb_canSwap_57 rfl rfl ?_
      refine zz_get C d_Pb_canSwap_58 zf_Pb_27 ((hR _).trans rfl) rfl ?_
      refine zz_iload_n C d_Pb_canSwap_61 rfl rfl ?_
      refine zz_zaldR (j := i) C hR d_Pb_canSwap_62 (fun _ _ => rfl) rfl (by omega) (by decide) ?_
      refine zz_if_ne (tgt := 85) C d_Pb_canSwap_63 (by decide) (fun c_63 => ?_) (fun c_63 => ?_)
      · refine zz_iinc C d_Pb_canSwap_85 rfl (nI_inc _) (by decide) rfl ?_
        refine zz_goto (tgt := 49) C d_Pb_canSwap_88 (by decide) ?_
        simp only [c_54, c_63, if_true, if_false, not_true_eq_false, not_false_eq_true] at hT
        exact ih (i + 1) (by omega) hlt hT
      · refine zz_aload_n C d_Pb_canSwap_66 rfl rfl ?_
        refine zz_iload_n C d_Pb_canSwap_67 rfl rfl ?_
        refine zz_iload_n C d_Pb_canSwap_68 rfl rfl ?_
        refine zz_iload_n C d_Pb_canSwap_69 rfl rfl ?_
        refine zz_callVr (e := 1) C hR d_Pb_canSwap_70 mk_Pb_62 zy_Pb_timesFound (m_Pb_timesFound hn hN hrc hM (by omega) ha hb) ⟨by decide, by decide⟩ ⟨Nat.zero_le _, Nat.zero_le _⟩ rfl rfl rfl rfl (Nat.le_of_ble_eq_true rfl) ?_
        refine zz_aload_n C d_Pb_canSwap_73 rfl rfl ?_
        refine zz_iload_n C d_Pb_canSwap_74 rfl rfl ?_
        refine zz_iload_n C d_Pb_canSwap_75 rfl rfl ?_
        refine zz_iload_n C d_Pb_canSwap_76 rfl rfl ?_
        refine zz_callVr (e := 1) C hR d_Pb_canSwap_77 mk_Pb_62 zy_Pb_timesFound (m_Pb_timesFound hn hN hrc hM (by omega) ha ha) ⟨by decide, by decide⟩ ⟨Nat.zero_le _, Nat.zero_le _⟩ rfl rfl rfl rfl (Nat.le_of_ble_eq_true rfl) ?_
        refine zz_icmp_eq (tgt := 85) C d_Pb_canSwap_80 (by decide) (fun c_80 => ?_) (fun c_80 => ?_)
        · refine zz_iinc C d_Pb_canSwap_85 rfl (nI_inc _) (by decide) rfl ?_
          refine zz_goto (tgt := 49) C d_Pb_canSwap_88 (by decide) ?_
          simp only [c_54, c_63, c_80, if_true, if_false, not_true_eq_false, not_false_eq_true] at hT
          exact ih (i + 1) (by omega) hlt hT
        · refine zz_iconst (v := 0) C d_Pb_canSwap_83 (by decide) ?_
          refine zz_zret C Z d_Pb_canSwap_84 (by first | rfl | decide | assumption) ?_
          simp only [c_54, c_63, c_80, if_true, if_false, not_true_eq_false, not_false_eq_true] at hT
          exact hT ▸ hpost
set_option maxRecDepth 100000 in
set_option maxHeartbeats 4000000 in
theorem m_Pb_canSwap {n rc a b : Nat} (hn : n ≤ 8) (hN : μ 1 7 = nI n) (hrc : rc ≤ 16) (hM : μ 1 8 = nI rc) (ha : a < n) (hb : b < n) : rMet l y_Pb_canSwap b_Pb_canSwap 4 (some .boolean) (zR 2) E [.ref (ad 1), .int (nI a), .int (nI b)] ad al μ pa (.int (csF μ n rc a b)) := by
  intro h hR
  refine zMet.of (L := [some (.ref (ad 1)), some (.int (nI a)), some (.int (nI b)), none]) (by decide +kernel) (Nat.le_of_ble_eq_true rfl) rfl 1 rfl fun X hl C Z => ?_
  refine zz_aload_n C d_Pb_canSwap_0 rfl rfl ?_
  refine zz_get C d_Pb_canSwap_1 zf_Pb_9 ((hR _).trans rfl) rfl ?_
  refine zz_iload_n C d_Pb_canSwap_4 rfl rfl ?_
  refine zz_ialdR (j := a) C hR d_Pb_canSwap_5 (fun _ _ => rfl) rfl (by omega) (by decide) ?_
  refine zz_aload_n C d_Pb_canSwap_6 rfl rfl ?_
  refine zz_get C d_Pb_canSwap_7 zf_Pb_9 ((hR _).trans rfl) rfl ?_
  refine zz_iload_n C d_Pb_canSwap_10 rfl rfl ?_
  refine zz_ialdR (j := b) C hR d_Pb_canSwap_11 (fun _ _ => rfl) rfl (by omega) (by decide) ?_
  refine zz_icmp_ne (tgt := 45) C d_Pb_canSwap_12 (by decide) (fun c_12 => ?_) (fun c_12 => ?_)
  · refine zz_iconst (v := 0) C d_Pb_canSwap_45 (by decide) ?_
    refine zz_zret C Z d_Pb_canSwap_46 (by first | rfl | decide | assumption) ?_
    exact ⟨by simp [csF, c_12], rfl, rfl⟩
  · refine zz_aload_n C d_Pb_canSwap_15 rfl rfl ?_
    refine zz_get C d_Pb_canSwap_16 zf_Pb_15 ((hR _).trans rfl) rfl ?_
    refine zz_iload_n C d_Pb_canSwap_19 rfl rfl ?_
    refine zz_ialdR (j := a) C hR d_Pb_canSwap_20 (fun _ _ => rfl) rfl (by omega) (by decide) ?_
    refine zz_aload_n C d_Pb_canSwap_21 rfl rfl ?_
    refine zz_get C d_Pb_canSwap_22 zf_Pb_15 ((hR _).trans rfl) rfl ?_
    refine zz_iload_n C d_Pb_canSwap_25 rfl rfl ?_
    refine zz_ialdR (j := b) C hR d_Pb_canSwap_26 (fun _ _ => rfl) rfl (by omega) (by decide) ?_
    refine zz_icmp_ne (tgt := 45) C d_Pb_canSwap_27 (by decide) (fun c_27 => ?_) (fun c_27 => ?_)
    · refine zz_iconst (v := 0) C d_Pb_canSwap_45 (by decide) ?_
      refine zz_zret C Z d_Pb_canSwap_46 (by first | rfl | decide | assumption) ?_
      exact ⟨by simp [csF, c_12, c_27], rfl, rfl⟩
    · refine zz_aload_n C d_Pb_canSwap_30 rfl rfl ?_
      refine zz_get C d_Pb_canSwap_31 zf_Pb_18 ((hR _).trans rfl) rfl ?_
      refine zz_iload_n C d_Pb_canSwap_34 rfl rfl ?_
      refine zz_ialdR (j := a) C hR d_Pb_canSwap_35 (fun _ _ => rfl) rfl (by omega) (by decide) ?_
      refine zz_aload_n C d_Pb_canSwap_36 rfl rfl ?_
      refine zz_get C d_Pb_canSwap_37 zf_Pb_18 ((hR _).trans rfl) rfl ?_
      refine zz_iload_n C d_Pb_canSwap_40 rfl rfl ?_
      refine zz_ialdR (j := b) C hR d_Pb_canSwap_41 (fun _ _ => rfl) rfl (by omega) (by decide) ?_
      refine zz_icmp_eq (tgt := 47) C d_Pb_canSwap_42 (by decide) (fun c_42 => ?_) (fun c_42 => ?_)
      · refine zz_iconst (v := 0) C d_Pb_canSwap_47 (by decide) ?_
        refine zz_istore_n C d_Pb_canSwap_48 rfl (by decide) rfl ?_
        exact lp_Pb_canSwap C Z hn hN hrc hM ha hb hR ⟨rfl, rfl, rfl⟩ rc 0 rfl (Nat.zero_le _) (by simp [csF, c_12, c_27, c_42])
      · refine zz_iconst (v := 0) C d_Pb_canSwap_45 (by decide) ?_
        refine zz_zret C Z d_Pb_canSwap_46 (by first | rfl | decide | assumption) ?_
        exact ⟨by simp [csF, c_12, c_27, c_42], rfl, rfl⟩
set_option maxRecDepth 100000 in
set_option maxHeartbeats 4000000 in
theorem lp_Pb_nextAlike {X : zX} {h : zH} {post : Option Value → (Nat → Nat) → zH → Prop} (C : zc X E b_Pb_nextAlike 3 "BranchTrees$Problem" (zR 3)) (Z : zr X E (some .int) 0 0 post) {n rc a : Nat} (hn : n ≤ 8) (hN : μ 1 7 = nI n) (hrc : rc ≤ 16) (hM : μ 1 8 = nI rc) (ha : a < n) (hR : zRep E ad al μ pa h) {T : Int32} (hpost : post (some (.int T)) ad h) :
    ∀ (k i : Nat), n - i = k → i ≤ n → naL μ n rc a k i = T → zz X E 3 ad 0 0 4 [some (.ref (ad 1)), some (.int (nI a)), some (.int (nI i))] [] h := by
  intro k
  induction k with
  | zero =>
    intro i hk hin hT
    have e : i = n := by omega
    subst e
    simp only [naL] at hT
    refine zz_iload_n C d_Pb_nextAlike_4 rfl rfl ?_
    refine zz_aload_n C d_Pb_nextAlike_5 rfl rfl ?_
    refine zz_get C d_Pb_nextAlike_6 zf_Pb_36 ((hR _).trans rfl) rfl ?_
    refine zz_icmp_ge (tgt := 29) C d_Pb_nextAlike_9 (by decide) (fun c_9 => ?_) (fun c_9 => ?_)
    · refine zz_bipush (v := -2) C d_Pb_nextAlike_29 (by decide) ?_
      refine zz_iret C Z d_Pb_nextAlike_31 ?_
      exact hT ▸ hpost
    · exact absurd (by rw [hN]; exact nI_le (Nat.le_refl _) (by omega)) c_9
  | succ k ih =>
    intro i hk hin hT
    have hlt : i < n := by omega
    simp only [naL] at hT
    refine zz_iload_n C d_Pb_nextAlike_4 rfl rfl ?_
    refine zz_aload_n C d_Pb_nextAlike_5 rfl rfl ?_
    refine zz_get C d_Pb_nextAlike_6 zf_Pb_36 ((hR _).trans rfl) rfl ?_
    refine zz_icmp_ge (tgt := 29) C d_Pb_nextAlike_9 (by decide) (fun c_9 => ?_) (fun c_9 => ?_)
    · exact absurd (by rw [hN] at c_9; exact c_9) (nI_ge hlt (by omega))
    · refine zz_aload_n C d_Pb_nextAlike_12 rfl rfl ?_
      refine zz_iload_n C d_Pb_nextAlike_13 rfl rfl ?_
      refine zz_iload_n C d_Pb_nextAlike_14 rfl rfl ?_
      refine zz_callVr (e := 2) C hR d_Pb_nextAlike_15 mk_Pb_54 zy_Pb_canSwap (m_Pb_canSwap hn hN hrc hM ha hlt) ⟨by decide, by decide⟩ ⟨Nat.zero_le _, Nat.zero_le _⟩ rfl rfl rfl rfl (Nat.le_of_ble_eq_true rfl) ?_
      refine zz_if_eq (tgt := 23) C d_Pb_nextAlike_18 (by decide) (fun c_18 => ?_) (fun c_18 => ?_)
      · refine zz_iinc C d_Pb_nextAlike_23 rfl (nI_inc _) (by decide) rfl ?_
        refine zz_goto (tgt := 4) C d_Pb_nextAlike_26 (by decide) ?_
        simp only [c_9, c_18, if_true, if_false] at hT
        exact ih (i + 1) (by omega) hlt hT
      · refine zz_iload_n C d_Pb_nextAlike_21 rfl rfl ?_
        refine zz_iret C Z d_Pb_nextAlike_22 ?_
        simp only [c_9, c_18, if_true, if_false] at hT
        exact hT ▸ hpost
set_option maxRecDepth 100000 in
set_option maxHeartbeats 4000000 in
theorem m_Pb_nextAlike {n rc a : Nat} (hn : n ≤ 8) (hN : μ 1 7 = nI n) (hrc : rc ≤ 16) (hM : μ 1 8 = nI rc) (ha : a < n) : rMet l y_Pb_nextAlike b_Pb_nextAlike 3 (some .int) (zR 3) E [.ref (ad 1), .int (nI a)] ad al μ pa (.int (naL μ n rc a (n - (a + 1)) (a + 1))) := by
  intro h hR
  refine zMet.of (L := [some (.ref (ad 1)), some (.int (nI a)), none]) (by decide +kernel) (Nat.le_of_ble_eq_true rfl) rfl 1 rfl fun X hl C Z => ?_
  refine zz_iload_n C d_Pb_nextAlike_0 rfl rfl ?_
  refine zz_iconst (v := 1) C d_Pb_nextAlike_1 (by decide) ?_
  refine zz_iadd C d_Pb_nextAlike_2 ?_
  rw [nI_1]
  refine zz_istore_n C d_Pb_nextAlike_3 rfl (by decide) rfl ?_
  exact lp_Pb_nextAlike C Z hn hN hrc hM ha hR ⟨rfl, rfl, rfl⟩ _ (a + 1) rfl ha rfl
set_option maxRecDepth 100000 in
set_option maxHeartbeats 4000000 in
theorem lp_Pb_addOrders {X : zX} {post : Option Value → (Nat → Nat) → zH → Prop} (C : zc X E b_Pb_addOrders 3 "BranchTrees$Problem" (zR 4)) (Z : zr X E (some .int) 0 0 post) {n : Nat} (hn : n ≤ 8) {T : Nat → Nat → Int32} (hpost : ∀ h, zRep E ad al T pa h → post (some (.int (T 1 9))) ad h) :
    ∀ (k i rc : Nat) (m : Nat → Nat → Int32) (w : Option Value), n - i = k → i ≤ n → rc ≤ 16 → m 1 7 = nI n → m 1 8 = nI rc → aosF n k i m rc = T → ∀ h, zRep E ad al m pa h → zz X E 3 ad 0 0 2 [some (.ref (ad 1)), some (.int (nI i)), w] [] h := by
  intro k
  induction k with
  | zero =>
    intro i rc m w hk hin hrc hN hM hT h hR
    have e : i = n := by omega
    subst e
    simp only [aosF] at hT
    subst hT
    refine zz_iload_n C d_Pb_addOrders_2 rfl rfl ?_
    refine zz_aload_n C d_Pb_addOrders_3 rfl rfl ?_
    refine zz_get C d_Pb_addOrders_4 zf_Pb_36 ((hR _).trans rfl) rfl ?_
    refine zz_icmp_ge (tgt := 34) C d_Pb_addOrders_7 (by decide) (fun c_7 => ?_) (fun c_7 => ?_)
    · refine zz_aload_n C d_Pb_addOrders_34 rfl rfl ?_
      refine zz_get C d_Pb_addOrders_35 zf_Pb_51 ((hR _).trans rfl) rfl ?_
      refine zz_iret C Z d_Pb_addOrders_38 ?_
      exact hpost h hR
    · exact absurd (by rw [hN]; exact nI_le (Nat.le_refl _) (by omega)) c_7
  | succ k ih =>
    intro i rc m w hk hin hrc hN hM hT h hR
    have hlt : i < n := by omega
    simp only [aosF] at hT
    refine zz_iload_n C d_Pb_addOrders_2 rfl rfl ?_
    refine zz_aload_n C d_Pb_addOrders_3 rfl rfl ?_
    refine zz_get C d_Pb_addOrders_4 zf_Pb_36 ((hR _).trans rfl) rfl ?_
    refine zz_icmp_ge (tgt := 34) C d_Pb_addOrders_7 (by decide) (fun c_7 => ?_) (fun c_7 => ?_)
    · exact absurd (by rw [hN] at c_7; exact c_7) (nI_ge hlt (by omega))
    · refine zz_aload_n C d_Pb_addOrders_10 rfl rfl ?_
      refine zz_iload_n C d_Pb_addOrders_11 rfl rfl ?_
      refine zz_callVr (e := 3) C hR d_Pb_addOrders_12 mk_Pb_43 zy_Pb_nextAlike (m_Pb_nextAlike hn hN hrc hM hlt) ⟨by decide, by decide⟩ ⟨Nat.zero_le _, Nat.zero_le _⟩ rfl rfl rfl rfl (Nat.le_of_ble_eq_true rfl) ?_
      refine zz_istore_n C d_Pb_addOrders_15 rfl (by decide) rfl ?_
      refine zz_iload_n C d_Pb_addOrders_16 rfl rfl ?_
      refine zz_bipush (v := -2) C d_Pb_addOrders_17 (by decide) ?_
      refine zz_icmp_eq (tgt := 28) C d_Pb_addOrders_19 (by decide) (fun c_19 => ?_) (fun c_19 => ?_)
      · rw [if_pos c_19] at hT
        refine zz_iinc C d_Pb_addOrders_28 rfl (nI_inc _) (by decide) rfl ?_
        refine zz_goto (tgt := 2) C d_Pb_addOrders_31 (by decide) ?_
        exact ih (i + 1) rc m _ (by omega) hlt hrc hN hM hT h hR
      · rw [if_neg c_19] at hT
        obtain hq | ⟨q, q1, q2, hq⟩ := naL_spec m n rc i (n - (i + 1)) (i + 1)
        · exact absurd hq c_19
        rw [hq, nI_clamp (by omega)] at hT
        rw [hq]
        rcases Nat.lt_or_ge rc 16 with hr | hr
        · rw [if_pos hr] at hT
          refine zz_aload_n C d_Pb_addOrders_22 rfl rfl ?_
          refine zz_iload_n C d_Pb_addOrders_23 rfl rfl ?_
          refine zz_iload_n C d_Pb_addOrders_24 rfl rfl ?_
          refine zz_callVv (e := 1) C hR d_Pb_addOrders_25 mk_Pb_47 zy_Pb_addOrder (m_Pb_addOrder hr hM (by omega) (by omega)) ⟨by decide, by decide⟩ ⟨Nat.zero_le _, Nat.zero_le _⟩ rfl rfl rfl rfl (Nat.le_of_ble_eq_true rfl) (fun h hR => ?_)
          refine zz_iinc C d_Pb_addOrders_28 rfl (nI_inc _) (by decide) rfl ?_
          refine zz_goto (tgt := 2) C d_Pb_addOrders_31 (by decide) ?_
          exact ih (i + 1) (rc + 1) _ _ (by omega) hlt (by omega) (by rw [aoF_17]; exact hN) (by rw [aoF_18 hM, if_pos hr]) hT h hR
        · have e : rc = 16 := by omega
          subst e
          rw [if_neg (by omega)] at hT
          refine zz_aload_n C d_Pb_addOrders_22 rfl rfl ?_
          refine zz_iload_n C d_Pb_addOrders_23 rfl rfl ?_
          refine zz_iload_n C d_Pb_addOrders_24 rfl rfl ?_
          refine zz_callVv (e := 1) C hR d_Pb_addOrders_25 mk_Pb_47 zy_Pb_addOrder (m_Pb_addOrder_full hM) ⟨by decide, by decide⟩ ⟨Nat.zero_le _, Nat.zero_le _⟩ rfl rfl rfl rfl (Nat.le_of_ble_eq_true rfl) (fun h hR => ?_)
          refine zz_iinc C d_Pb_addOrders_28 rfl (nI_inc _) (by decide) rfl ?_
          refine zz_goto (tgt := 2) C d_Pb_addOrders_31 (by decide) ?_
          exact ih (i + 1) 16 _ _ (by omega) hlt (by omega) (by rw [aoF_17]; exact hN) (by rw [aoF_18 hM]; rfl) hT h hR
set_option maxRecDepth 100000 in
set_option maxHeartbeats 4000000 in
theorem m_Pb_addOrders {n rc : Nat} (hn : n ≤ 8) (hN : μ 1 7 = nI n) (hrc : rc ≤ 16) (hM : μ 1 8 = nI rc) : wMet l y_Pb_addOrders b_Pb_addOrders 3 (some .int) (zR 4) E [.ref (ad 1)] ad al μ pa (some (.int (aosF n n 0 μ rc 1 9))) (aosF n n 0 μ rc) pa := by
  intro h hR
  refine zMet.of (L := [some (.ref (ad 1)), none, none]) (by decide +kernel) (Nat.le_of_ble_eq_true rfl) rfl 2 rfl fun X hl C Z => ?_
  refine zz_iconst (v := 0) C d_Pb_addOrders_0 (by decide) ?_
  refine zz_istore_n C d_Pb_addOrders_1 rfl (by decide) rfl ?_
  exact lp_Pb_addOrders C Z hn (fun h hR => ⟨rfl, rfl, hR⟩) n 0 rc μ _ rfl (Nat.zero_le _) hrc hN hM rfl h hR
set_option maxRecDepth 100000 in
set_option maxHeartbeats 4000000 in
theorem lq_Pb_isPlan {X : zX} {h : zH} {post : Option Value → (Nat → Nat) → zH → Prop} (C : zc X E b_Pb_isPlan 4 "BranchTrees$Problem" (zR 1)) (Z : zr X E (some .boolean) 0 0 post) {kv n rc : Nat} (hn : n ≤ 8) (hN : μ 1 7 = nI n) (hrc : rc ≤ 16) (hM : μ 1 8 = nI rc) (hV : isA E ad al kv 8) (hR : zRep E ad al μ pa h) {T : Int32} (hpost : post (some (.int T)) ad h) :
    ∀ (k i : Nat) (w : Option Value), rc - i = k → i ≤ rc → rwL μ kv n k i = T → zz X E 4 ad 0 0 44 [some (.ref (ad 1)), some (.ref (ad kv)), some (.int (nI i)), w] [] h := by
  intro k
  induction k with
  | zero =>
    intro i w hk hin hT
    have e : i = rc := by omega
    subst e
    simp only [rwL] at hT
    refine zz_iload_n C d_Pb_isPlan_44 rfl rfl ?_
    refine zz_aload_n C d_Pb_isPlan_45 rfl rfl ?_
    refine zz_get C d_Pb_isPlan_46 zf_Pb_40 ((hR _).trans rfl) rfl ?_
    refine zz_icmp_ge (tgt := 110) C d_Pb_isPlan_49 (by decide) (fun c_49 => ?_) (fun c_49 => ?_)
    · refine zz_iconst (v := 1) C d_Pb_isPlan_110 (by decide) ?_
      refine zz_zret C Z d_Pb_isPlan_111 (by first | rfl | decide | assumption) ?_
      exact hT ▸ hpost
    · exact absurd (by rw [hM]; exact nI_le (Nat.le_refl _) (by omega)) c_49
  | succ k ih =>
    intro i w hk hin hT
    have hlt : i < rc := by omega
    have hi16 : i < 16 := by omega
    simp only [rwL, okR] at hT
    refine zz_iload_n C d_Pb_isPlan_44 rfl rfl ?_
    refine zz_aload_n C d_Pb_isPlan_45 rfl rfl ?_
    refine zz_get C d_Pb_isPlan_46 zf_Pb_40 ((hR _).trans rfl) rfl ?_
    refine zz_icmp_ge (tgt := 110) C d_Pb_isPlan_49 (by decide) (fun c_49 => ?_) (fun c_49 => ?_)
    · exact absurd (by rw [hM] at c_49; exact c_49) (nI_ge hlt (by omega))
    · refine zz_aload_n C d_Pb_isPlan_52 rfl rfl ?_
      refine zz_aload_n C d_Pb_isPlan_53 rfl rfl ?_
      refine zz_get C d_Pb_isPlan_54 zf_Pb_33 ((hR _).trans rfl) rfl ?_
      refine zz_iload_n C d_Pb_isPlan_57 rfl rfl ?_
      refine zz_rowR (r := i) C hR d_Pb_isPlan_58 rfl hi16 ?_
      refine zz_aload_n C d_Pb_isPlan_59 rfl rfl ?_
      refine zz_callVr (e := 0) C hR d_Pb_isPlan_60 mk_Pb_70 zy_Pb_sumOf (m_Pb_sumOf hn hN (zb_row E ad al hi16) hV) ⟨by decide, by decide⟩ ⟨Nat.zero_le _, Nat.zero_le _⟩ rfl rfl rfl rfl (Nat.le_of_ble_eq_true rfl) ?_
      refine zz_istore_n C d_Pb_isPlan_63 rfl (by decide) rfl ?_
      refine zz_aload_n C d_Pb_isPlan_64 rfl rfl ?_
      refine zz_iload_n C d_Pb_isPlan_65 rfl rfl ?_
      refine zz_iconst (v := 1) C d_Pb_isPlan_66 (by decide) ?_
      refine zz_callVr (e := 0) C hR d_Pb_isPlan_67 mk_Pb_74 zy_Pb_binds (m_Pb_binds hi16) ⟨by decide, by decide⟩ ⟨Nat.zero_le _, Nat.zero_le _⟩ rfl rfl rfl rfl (Nat.le_of_ble_eq_true rfl) ?_
      refine zz_if_eq (tgt := 83) C d_Pb_isPlan_70 (by decide) (fun c_70 => ?_) (fun c_70 => ?_)
      · refine zz_aload_n C d_Pb_isPlan_83 rfl rfl ?_
        refine zz_iload_n C d_Pb_isPlan_84 rfl rfl ?_
        refine zz_iconst (v := -1) C d_Pb_isPlan_85 (by decide) ?_
        refine zz_callVr (e := 0) C hR d_Pb_isPlan_86 mk_Pb_74 zy_Pb_binds (m_Pb_binds hi16) ⟨by decide, by decide⟩ ⟨Nat.zero_le _, Nat.zero_le _⟩ rfl rfl rfl rfl (Nat.le_of_ble_eq_true rfl) ?_
        refine zz_if_eq (tgt := 104) C d_Pb_isPlan_89 (by decide) (fun c_89 => ?_) (fun c_89 => ?_)
        · refine zz_iinc C d_Pb_isPlan_104 rfl (nI_inc _) (by decide) rfl ?_
          refine zz_goto (tgt := 44) C d_Pb_isPlan_107 (by decide) ?_
          simp [c_49, c_70, c_89] at hT
          exact ih (i + 1) _ (by omega) hlt hT
        · refine zz_iload_n C d_Pb_isPlan_92 rfl rfl ?_
          refine zz_aload_n C d_Pb_isPlan_93 rfl rfl ?_
          refine zz_get C d_Pb_isPlan_94 zf_Pb_24 ((hR _).trans rfl) rfl ?_
          refine zz_iload_n C d_Pb_isPlan_97 rfl rfl ?_
          refine zz_ialdR (j := i) C hR d_Pb_isPlan_98 (fun _ _ => rfl) rfl hi16 (by decide) ?_
          refine zz_icmp_ge (tgt := 104) C d_Pb_isPlan_99 (by decide) (fun c_99 => ?_) (fun c_99 => ?_)
          · refine zz_iinc C d_Pb_isPlan_104 rfl (nI_inc _) (by decide) rfl ?_
            refine zz_goto (tgt := 44) C d_Pb_isPlan_107 (by decide) ?_
            simp [c_49, c_70, c_89, c_99] at hT
            exact ih (i + 1) _ (by omega) hlt hT
          · refine zz_iconst (v := 0) C d_Pb_isPlan_102 (by decide) ?_
            refine zz_zret C Z d_Pb_isPlan_103 (by first | rfl | decide | assumption) ?_
            simp [c_49, c_70, c_89, c_99] at hT
            exact hT ▸ hpost
      · refine zz_iload_n C d_Pb_isPlan_73 rfl rfl ?_
        refine zz_aload_n C d_Pb_isPlan_74 rfl rfl ?_
        refine zz_get C d_Pb_isPlan_75 zf_Pb_24 ((hR _).trans rfl) rfl ?_
        refine zz_iload_n C d_Pb_isPlan_78 rfl rfl ?_
        refine zz_ialdR (j := i) C hR d_Pb_isPlan_79 (fun _ _ => rfl) rfl hi16 (by decide) ?_
        refine zz_icmp_gt (tgt := 102) C d_Pb_isPlan_80 (by decide) (fun c_80 => ?_) (fun c_80 => ?_)
        · refine zz_iconst (v := 0) C d_Pb_isPlan_102 (by decide) ?_
          refine zz_zret C Z d_Pb_isPlan_103 (by first | rfl | decide | assumption) ?_
          simp [c_49, c_70, c_80] at hT
          exact hT ▸ hpost
        · refine zz_aload_n C d_Pb_isPlan_83 rfl rfl ?_
          refine zz_iload_n C d_Pb_isPlan_84 rfl rfl ?_
          refine zz_iconst (v := -1) C d_Pb_isPlan_85 (by decide) ?_
          refine zz_callVr (e := 0) C hR d_Pb_isPlan_86 mk_Pb_74 zy_Pb_binds (m_Pb_binds hi16) ⟨by decide, by decide⟩ ⟨Nat.zero_le _, Nat.zero_le _⟩ rfl rfl rfl rfl (Nat.le_of_ble_eq_true rfl) ?_
          refine zz_if_eq (tgt := 104) C d_Pb_isPlan_89 (by decide) (fun c_89 => ?_) (fun c_89 => ?_)
          · refine zz_iinc C d_Pb_isPlan_104 rfl (nI_inc _) (by decide) rfl ?_
            refine zz_goto (tgt := 44) C d_Pb_isPlan_107 (by decide) ?_
            simp [c_49, c_70, c_80, c_89] at hT
            exact ih (i + 1) _ (by omega) hlt hT
          · refine zz_iload_n C d_Pb_isPlan_92 rfl rfl ?_
            refine zz_aload_n C d_Pb_isPlan_93 rfl rfl ?_
            refine zz_get C d_Pb_isPlan_94 zf_Pb_24 ((hR _).trans rfl) rfl ?_
            refine zz_iload_n C d_Pb_isPlan_97 rfl rfl ?_
            refine zz_ialdR (j := i) C hR d_Pb_isPlan_98 (fun _ _ => rfl) rfl hi16 (by decide) ?_
            refine zz_icmp_ge (tgt := 104) C d_Pb_isPlan_99 (by decide) (fun c_99 => ?_) (fun c_99 => ?_)
            · refine zz_iinc C d_Pb_isPlan_104 rfl (nI_inc _) (by decide) rfl ?_
              refine zz_goto (tgt := 44) C d_Pb_isPlan_107 (by decide) ?_
              simp [c_49, c_70, c_80, c_89, c_99] at hT
              exact ih (i + 1) _ (by omega) hlt hT
            · refine zz_iconst (v := 0) C d_Pb_isPlan_102 (by decide) ?_
              refine zz_zret C Z d_Pb_isPlan_103 (by first | rfl | decide | assumption) ?_
              simp [c_49, c_70, c_80, c_89, c_99] at hT
              exact hT ▸ hpost
set_option maxRecDepth 100000 in
set_option maxHeartbeats 4000000 in
theorem lp_Pb_isPlan {X : zX} {h : zH} {post : Option Value → (Nat → Nat) → zH → Prop} (C : zc X E b_Pb_isPlan 4 "BranchTrees$Problem" (zR 1)) (Z : zr X E (some .boolean) 0 0 post) {kv n rc : Nat} (hn : n ≤ 8) (hN : μ 1 7 = nI n) (hrc : rc ≤ 16) (hM : μ 1 8 = nI rc) (hV : isA E ad al kv 8) (hR : zRep E ad al μ pa h) (hpost : post (some (.int (plF μ kv n rc))) ad h) :
    ∀ (k i : Nat), n - i = k → i ≤ n → spL (μ 2) (μ 3) (μ kv) k i = spL (μ 2) (μ 3) (μ kv) n 0 → zz X E 4 ad 0 0 2 [some (.ref (ad 1)), some (.ref (ad kv)), some (.int (nI i)), none] [] h := by
  intro k
  induction k with
  | zero =>
    intro i hk hin hT
    have e : i = n := by omega
    subst e
    simp only [spL] at hT
    have hp : plF μ kv i rc = rwL μ kv i rc 0 := by unfold plF; rw [← hT]; rfl
    rw [hp] at hpost
    refine zz_iload_n C d_Pb_isPlan_2 rfl rfl ?_
    refine zz_aload_n C d_Pb_isPlan_3 rfl rfl ?_
    refine zz_get C d_Pb_isPlan_4 zf_Pb_36 ((hR _).trans rfl) rfl ?_
    refine zz_icmp_ge (tgt := 42) C d_Pb_isPlan_7 (by decide) (fun c_7 => ?_) (fun c_7 => ?_)
    · refine zz_iconst (v := 0) C d_Pb_isPlan_42 (by decide) ?_
      refine zz_istore_n C d_Pb_isPlan_43 rfl (by decide) rfl ?_
      exact lq_Pb_isPlan C Z hn hN hrc hM hV hR hpost rc 0 _ rfl (Nat.zero_le _) rfl
    · exact absurd (by rw [hN]; exact nI_le (Nat.le_refl _) (by omega)) c_7
  | succ k ih =>
    intro i hk hin hT
    have hlt : i < n := by omega
    simp only [spL] at hT
    refine zz_iload_n C d_Pb_isPlan_2 rfl rfl ?_
    refine zz_aload_n C d_Pb_isPlan_3 rfl rfl ?_
    refine zz_get C d_Pb_isPlan_4 zf_Pb_36 ((hR _).trans rfl) rfl ?_
    refine zz_icmp_ge (tgt := 42) C d_Pb_isPlan_7 (by decide) (fun c_7 => ?_) (fun c_7 => ?_)
    · exact absurd (by rw [hN] at c_7; exact c_7) (nI_ge hlt (by omega))
    · refine zz_aload_n C d_Pb_isPlan_10 rfl rfl ?_
      refine zz_iload_n C d_Pb_isPlan_11 rfl rfl ?_
      refine zz_ialdR (j := i) C hR d_Pb_isPlan_12 hV rfl (by omega) (by decide) ?_
      refine zz_aload_n C d_Pb_isPlan_13 rfl rfl ?_
      refine zz_get C d_Pb_isPlan_14 zf_Pb_9 ((hR _).trans rfl) rfl ?_
      refine zz_iload_n C d_Pb_isPlan_17 rfl rfl ?_
      refine zz_ialdR (j := i) C hR d_Pb_isPlan_18 (fun _ _ => rfl) rfl (by omega) (by decide) ?_
      refine zz_icmp_lt (tgt := 34) C d_Pb_isPlan_19 (by decide) (fun c_19 => ?_) (fun c_19 => ?_)
      · refine zz_iconst (v := 0) C d_Pb_isPlan_34 (by decide) ?_
        refine zz_zret C Z d_Pb_isPlan_35 (by first | rfl | decide | assumption) ?_
        simp only [c_7, c_19, if_true, if_false] at hT
        have hp : plF μ kv n rc = 0 := by unfold plF; rw [← hT]; rfl
        rw [hp] at hpost
        exact hpost
      · refine zz_aload_n C d_Pb_isPlan_22 rfl rfl ?_
        refine zz_iload_n C d_Pb_isPlan_23 rfl rfl ?_
        refine zz_ialdR (j := i) C hR d_Pb_isPlan_24 hV rfl (by omega) (by decide) ?_
        refine zz_aload_n C d_Pb_isPlan_25 rfl rfl ?_
        refine zz_get C d_Pb_isPlan_26 zf_Pb_15 ((hR _).trans rfl) rfl ?_
        refine zz_iload_n C d_Pb_isPlan_29 rfl rfl ?_
        refine zz_ialdR (j := i) C hR d_Pb_isPlan_30 (fun _ _ => rfl) rfl (by omega) (by decide) ?_
        refine zz_icmp_le (tgt := 36) C d_Pb_isPlan_31 (by decide) (fun c_31 => ?_) (fun c_31 => ?_)
        · refine zz_iinc C d_Pb_isPlan_36 rfl (nI_inc _) (by decide) rfl ?_
          refine zz_goto (tgt := 2) C d_Pb_isPlan_39 (by decide) ?_
          simp only [c_7, c_19, c_31, if_true, if_false] at hT
          exact ih (i + 1) (by omega) hlt hT
        · refine zz_iconst (v := 0) C d_Pb_isPlan_34 (by decide) ?_
          refine zz_zret C Z d_Pb_isPlan_35 (by first | rfl | decide | assumption) ?_
          simp only [c_7, c_19, c_31, if_true, if_false] at hT
          have hp : plF μ kv n rc = 0 := by unfold plF; rw [← hT]; rfl
          rw [hp] at hpost
          exact hpost
set_option maxRecDepth 100000 in
set_option maxHeartbeats 4000000 in
theorem m_Pb_isPlan {kv n rc : Nat} (hn : n ≤ 8) (hN : μ 1 7 = nI n) (hrc : rc ≤ 16) (hM : μ 1 8 = nI rc) (hV : isA E ad al kv 8) : rMet l y_Pb_isPlan b_Pb_isPlan 4 (some .boolean) (zR 1) E [.ref (ad 1), .ref (ad kv)] ad al μ pa (.int (plF μ kv n rc)) := by
  intro h hR
  refine zMet.of (L := [some (.ref (ad 1)), some (.ref (ad kv)), none, none]) (by decide +kernel) (Nat.le_of_ble_eq_true rfl) rfl 2 rfl fun X hl C Z => ?_
  refine zz_iconst (v := 0) C d_Pb_isPlan_0 (by decide) ?_
  refine zz_istore_n C d_Pb_isPlan_1 rfl (by decide) rfl ?_
  exact lp_Pb_isPlan C Z hn hN hrc hM hV hR ⟨rfl, rfl, rfl⟩ n 0 rfl (Nat.zero_le _) rfl
end PROBLEM2
