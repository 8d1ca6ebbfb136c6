/-! PROOF -/
/-- the NODE that a number names -/
def atO (sz : Nat) (x : Int32) : Option Nat := if x < 0 then none else if nI sz ≤ x then none else some x.toNatClampNeg
theorem atO_cases (x : Int32) {sz : Nat} (hsz : sz < 2 ^ 31) : ((x < 0 ∨ nI sz ≤ x) ∧ atO sz x = none) ∨ ∃ p : Nat, p < sz ∧ x = nI p ∧ atO sz x = some p := by
  unfold atO
  by_cases h1 : x < 0
  · left; simp [h1]
  · by_cases h2 : nI sz ≤ x
    · left; simp [h1, h2]
    · right
      obtain ⟨j, hj, e⟩ := (pk_ix x hsz).resolve_left h1 |>.resolve_left h2
      refine ⟨j, hj, e, ?_⟩
      rw [if_neg h1, if_neg h2, e, nI_clamp (by omega)]
def ccS (sz : Nat) (m : Nat → Nat → Int32) (i : Nat) : Nat → Nat → Int32 := match atO sz (m (100 + 4 * i) 2) with
  | none => va_up m (100 + 4 * i) (upd (m (100 + 4 * i)) 11 0)
  | some p => va_up (va_up m (100 + 4 * i) (upd (m (100 + 4 * i)) 11 0)) (100 + 4 * p) (upd (va_up m (100 + 4 * i) (upd (m (100 + 4 * i)) 11 0) (100 + 4 * p)) 11 (va_up m (100 + 4 * i) (upd (m (100 + 4 * i)) 11 0) (100 + 4 * p) 11 + 1))
def ccF (sz : Nat) (μ : Nat → Nat → Int32) : Nat → Nat → Nat → Int32
  | 0 => μ
  | i + 1 => ccS sz (ccF sz μ i) i
theorem ccS_fr {sz i k : Nat} {m : Nat → Nat → Int32} (hk : k < 100) : ccS sz m i k = m k := by
  unfold ccS
  cases atO sz (m (100 + 4 * i) 2) with
  | none => show va_up _ _ _ k = m k; rw [va_up_ne _ _ (by omega)]
  | some p => show va_up _ _ _ k = m k; rw [va_up_ne _ _ (by omega), va_up_ne _ _ (by omega)]
theorem ccF_fr {sz k : Nat} {μ : Nat → Nat → Int32} (hk : k < 100) : ∀ i : Nat, ccF sz μ i k = μ k
  | 0 => rfl
  | i + 1 => by show ccS sz (ccF sz μ i) i k = μ k; rw [ccS_fr hk, ccF_fr hk i]
def cbS (m : Nat → Nat → Int32) (j : Nat) : Nat → Nat → Int32 := if hasN (m (100 + 4 * j) 3) (m 1 7) = 0 then m else cutF m 20 21 (m (100 + 4 * j) 3).toNatClampNeg (m (100 + 4 * j) 4) (m (100 + 4 * j) 5)
def cbL (sz : Nat) : Nat → Option Nat → (Nat → Nat → Int32) → (Nat → Nat → Int32)
  | 0, _, m => m
  | _ + 1, none, m => m
  | k + 1, some j, m => cbL sz k (atO sz (m (100 + 4 * j) 2)) (cbS m j)
def cbF (sz : Nat) (μ : Nat → Nat → Int32) (j : Nat) : Nat → Nat → Int32 := cbL sz 600 (some j) (cpF μ 20 21 2 3 8)
theorem cutF_fr {m : Nat → Nat → Int32} {kl kh j k : Nat} {sd v : Int32} (h1 : k ≠ kl) (h2 : k ≠ kh) : cutF m kl kh j sd v k = m k := by
  unfold cutF
  split
  · rw [va_up_ne _ _ h2]
  · rw [va_up_ne _ _ h1]
theorem cbS_fr {m : Nat → Nat → Int32} {j k : Nat} (h1 : k ≠ 20) (h2 : k ≠ 21) : cbS m j k = m k := by
  unfold cbS
  split
  · rfl
  · exact cutF_fr h1 h2
theorem cbL_fr {sz k : Nat} (h1 : k ≠ 20) (h2 : k ≠ 21) : ∀ (n : Nat) (o : Option Nat) (m : Nat → Nat → Int32), cbL sz n o m k = m k
  | 0, _, m => rfl
  | _ + 1, none, m => rfl
  | n + 1, some j, m => by
    show cbL sz n _ (cbS m j) k = m k
    rw [cbL_fr h1 h2 n, cbS_fr h1 h2]
theorem cpF_fr {m : Nat → Nat → Int32} {kl kh ka kc i k : Nat} (h1 : k ≠ kl) (h2 : k ≠ kh) : cpF m kl kh ka kc i k = m k := by
  unfold cpF
  rw [va_up_ne _ _ h2, va_up_ne _ _ h1]
theorem cbF_fr {sz : Nat} {μ : Nat → Nat → Int32} {j k : Nat} (h1 : k ≠ 20) (h2 : k ≠ 21) : cbF sz μ j k = μ k := by
  unfold cbF; rw [cbL_fr h1 h2, cpF_fr h1 h2]
/-- is a NODE proven: the answer, and the rows behind it -/
def ipF (sz n rc : Nat) (m : Nat → Nat → Int32) (j : Nat) : Int32 × (Nat → Nat → Int32) :=
  if ¬ m (100 + 4 * j) 7 = 1 then (if (nwF (cbF sz m j) n rc 1000 (cbF sz m j 20, cbF sz m j 21, cbF sz m j 16 2)).1 = -2 then 0 else 1, setB (cbF sz m j) 20 21 (nwF (cbF sz m j) n rc 1000 (cbF sz m j 20, cbF sz m j 21, cbF sz m j 16 2)).2)
  else (if ¬ m (100 + 4 * j) 11 = 2 then 0 else 1, m)
theorem setB_fr {m : Nat → Nat → Int32} {kl kh k : Nat} {s : zB} (h1 : k ≠ kl) (h2 : k ≠ kh) (h3 : k ≠ 16) : setB m kl kh s k = m k := by
  unfold setB
  rw [va_up_ne _ _ h3, va_up_ne _ _ h2, va_up_ne _ _ h1]
theorem ipF_fr {sz n rc : Nat} {m : Nat → Nat → Int32} {j k : Nat} (h1 : k ≠ 20) (h2 : k ≠ 21) (h3 : k ≠ 16) : (ipF sz n rc m j).2 k = m k := by
  unfold ipF
  split
  · show setB _ 20 21 _ k = m k
    rw [setB_fr h1 h2 h3, cbF_fr h1 h2]
  · rfl
def hoL (sz n rc : Nat) : Nat → Nat → (Nat → Nat → Int32) → Int32 × (Nat → Nat → Int32)
  | 0, _, m => (1, m)
  | k + 1, i, m => if ¬ (ipF sz n rc m i).1 = 0 then hoL sz n rc k (i + 1) (ipF sz n rc m i).2 else (0, (ipF sz n rc m i).2)
def hoF (sz n rc : Nat) (μ : Nat → Nat → Int32) : Int32 × (Nat → Nat → Int32) := if cnF μ 0 sz ≤ 0 then hoL sz n rc sz 0 (ccF sz μ sz) else (0, μ)
theorem hasN_ok {x : Int32} {n : Nat} (h : ¬ hasN x (nI n) = 0) (hn : n < 2 ^ 31) : ∃ a : Nat, a < n ∧ x = nI a := by
  rcases pk_ix x hn with h1 | h1 | ⟨j, h1, h2⟩
  · exact absurd (by simp [hasN, h1]) h
  · exact absurd (by simp [hasN, h1]) h
  · exact ⟨j, h1, h2⟩
section PROOF
variable {l : Launch} {E : zE} {ad : Nat → Nat} {al : Nat} {μ : Nat → Nat → Int32} {pa : Nat → Nat → Int64}
set_option maxRecDepth 100000 in
set_option maxHeartbeats 4000000 in
theorem lp_Pf_countChildren {X : zX} {post : Option Value → (Nat → Nat) → zH → Prop} (C : zc X E b_Pf_countChildren 4 "BranchTrees$Proof" (zR 1)) (Z : zr X E none 0 0 post) {sz : Nat} (hS : μ 14 1 = nI sz) (hsz : sz ≤ al) (hal : al ≤ 600) (hpost : ∀ h, zRep E ad al (ccF sz μ sz) pa h → post none ad h) :
    ∀ (k i : Nat) (w w' : Option Value), sz - i = k → i ≤ sz → ∀ h, zRep E ad al (ccF sz μ i) pa h → zz X E 4 ad 0 0 2 [some (.ref (ad 18)), some (.int (nI i)), w, w'] [] h := by
  intro k
  induction k with
  | zero =>
    intro i w w' hk hin h hR
    have e : i = sz := by omega
    subst e
    have hm : ccF i μ i 14 1 = nI i := by rw [ccF_fr (by omega)]; exact hS
    refine zz_iload_n C d_Pf_countChildren_2 rfl rfl ?_
    refine zz_aload_n C d_Pf_countChildren_3 rfl rfl ?_
    refine zz_get C d_Pf_countChildren_4 zf_Pf_22 ((hR _).trans rfl) rfl ?_
    refine zz_getV C hR (nI i) _ d_Pf_countChildren_7 zf_Pf_39 rfl rfl hm ?_
    refine zz_icmp_ge (tgt := 63) C d_Pf_countChildren_10 (by decide) (fun c_10 => ?_) (fun c_10 => ?_)
    · refine zz_vret C Z d_Pf_countChildren_63 ?_
      exact hpost h hR
    · exact absurd (nI_le (Nat.le_refl _) (by omega)) c_10
  | succ k ih =>
    intro i w w' hk hin h hR
    have hlt : i < sz := by omega
    have hia : i < al := by omega
    have hm : ccF sz μ i 14 1 = nI sz := by rw [ccF_fr (by omega)]; exact hS
    have K := fun w w' => ih (i + 1) w w' (by omega) hlt
    have eS : ccF sz μ (i + 1) = ccS sz (ccF sz μ i) i := rfl
    rw [eS] at K
    generalize ccF sz μ i = m at hm hR K
    have hm' : ∀ f, va_up m (100 + 4 * i) f 14 1 = nI sz := fun f => by rw [va_up_ne _ _ (by omega)]; exact hm
    refine zz_iload_n C d_Pf_countChildren_2 rfl rfl ?_
    refine zz_aload_n C d_Pf_countChildren_3 rfl rfl ?_
    refine zz_get C d_Pf_countChildren_4 zf_Pf_22 ((hR _).trans rfl) rfl ?_
    refine zz_getV C hR (nI sz) _ d_Pf_countChildren_7 zf_Pf_39 rfl rfl hm ?_
    refine zz_icmp_ge (tgt := 63) C d_Pf_countChildren_10 (by decide) (fun c_10 => ?_) (fun c_10 => ?_)
    · exact absurd c_10 (nI_ge hlt (by omega))
    · refine zz_aload_n C d_Pf_countChildren_13 rfl rfl ?_
      refine zz_get C d_Pf_countChildren_14 zf_Pf_22 ((hR _).trans rfl) rfl ?_
      refine zz_iload_n C d_Pf_countChildren_17 rfl rfl ?_
      refine zz_callVr (e := 0) C hR d_Pf_countChildren_18 mk_Pf_43 zy_Tr_at (m_Tr_at hm hsz hal hlt) ⟨by decide, by decide⟩ ⟨Nat.zero_le _, Nat.zero_le _⟩ rfl rfl rfl rfl (Nat.le_of_ble_eq_true rfl) ?_
      refine zz_astore_n C d_Pf_countChildren_21 rfl (by decide) rfl ?_
      refine zz_aload_n C d_Pf_countChildren_22 rfl rfl ?_
      refine zz_ifnull C d_Pf_countChildren_23 ?_
      refine zz_aload_n C d_Pf_countChildren_26 rfl rfl ?_
      refine zz_iconst (v := 0) C d_Pf_countChildren_27 (by decide) ?_
      refine zz_putI C hR d_Pf_countChildren_28 zp_Pf_51 (zb_nd0 E ad hia _ _) rfl rfl (Nat.le_of_ble_eq_true rfl) (zb_nd0 E ad hia _ _) (fun h hR => ?_)
      refine zz_aload_n C d_Pf_countChildren_31 rfl rfl ?_
      refine zz_get C d_Pf_countChildren_32 zf_Pf_22 ((hR _).trans rfl) rfl ?_
      refine zz_aload_n C d_Pf_countChildren_35 rfl rfl ?_
      refine zz_getV C hR (m (100 + 4 * i) 2) _ d_Pf_countChildren_36 zf_Pf_56 (zb_nd0 E ad hia _ _) rfl (by rw [va_up_self]; rfl) ?_
      rcases atO_cases (m (100 + 4 * i) 2) (sz := sz) (by omega) with ⟨hx, ho⟩ | ⟨p, hp, hx, ho⟩
      · refine zz_callVr (e := 0) C hR d_Pf_countChildren_39 mk_Pf_43 zy_Tr_at (m_Tr_at_no (by rw [hm']; exact hx)) ⟨by decide, by decide⟩ ⟨Nat.zero_le _, Nat.zero_le _⟩ rfl rfl rfl rfl (Nat.le_of_ble_eq_true rfl) ?_
        refine zz_astore_nN C d_Pf_countChildren_42 rfl (by decide) rfl ?_
        refine zz_aload_nN C d_Pf_countChildren_43 rfl rfl ?_
        refine zz_ifnullN (tgt := 57) C d_Pf_countChildren_44 (by decide) ?_
        refine zz_iinc C d_Pf_countChildren_57 rfl (nI_inc _) (by decide) rfl ?_
        refine zz_goto (tgt := 2) C d_Pf_countChildren_60 (by decide) ?_
        simp only [ccS, ho] at K
        exact K _ _ h hR
      · have hpa : p < al := by omega
        rw [hx]
        refine zz_callVr (e := 0) C hR d_Pf_countChildren_39 mk_Pf_43 zy_Tr_at (m_Tr_at (hm' _) hsz hal hp) ⟨by decide, by decide⟩ ⟨Nat.zero_le _, Nat.zero_le _⟩ rfl rfl rfl rfl (Nat.le_of_ble_eq_true rfl) ?_
        refine zz_astore_n C d_Pf_countChildren_42 rfl (by decide) rfl ?_
        refine zz_aload_n C d_Pf_countChildren_43 rfl rfl ?_
        refine zz_ifnull C d_Pf_countChildren_44 ?_
        refine zz_aload_n C d_Pf_countChildren_47 rfl rfl ?_
        refine zz_dup C d_Pf_countChildren_48 rfl ?_
        refine zz_get C d_Pf_countChildren_49 zf_Pf_51 ((hR _).trans (zb_nd0 E ad hpa _ _)) rfl ?_
        refine zz_iconst (v := 1) C d_Pf_countChildren_52 (by decide) ?_
        refine zz_iadd C d_Pf_countChildren_53 ?_
        refine zz_putI C hR d_Pf_countChildren_54 zp_Pf_51 (zb_nd0 E ad hpa _ _) rfl rfl (Nat.le_of_ble_eq_true rfl) (zb_nd0 E ad hpa _ _) (fun h hR => ?_)
        refine zz_iinc C d_Pf_countChildren_57 rfl (nI_inc _) (by decide) rfl ?_
        refine zz_goto (tgt := 2) C d_Pf_countChildren_60 (by decide) ?_
        simp only [ccS, ho] at K
        exact K _ _ h hR
set_option maxRecDepth 100000 in
set_option maxHeartbeats 4000000 in
theorem m_Pf_countChildren {sz : Nat} (hS : μ 14 1 = nI sz) (hsz : sz ≤ al) (hal : al ≤ 600) : wMet l y_Pf_countChildren b_Pf_countChildren 4 none (zR 1) E [.ref (ad 18)] ad al μ pa none (ccF sz μ sz) pa := by
  intro h hR
  refine zMet.of (L := [some (.ref (ad 18)), none, none, none]) (by decide +kernel) (Nat.le_of_ble_eq_true rfl) rfl 3 rfl fun X hl C Z => ?_
  refine zz_iconst (v := 0) C d_Pf_countChildren_0 (by decide) ?_
  refine zz_istore_n C d_Pf_countChildren_1 rfl (by decide) rfl ?_
  exact lp_Pf_countChildren C Z hS hsz hal (fun h hR => ⟨rfl, rfl, hR⟩) sz 0 _ _ rfl (Nat.zero_le _) h hR
set_option maxRecDepth 100000 in
set_option maxHeartbeats 4000000 in
theorem lp_Pf_cutBox {X : zX} {post : Option Value → (Nat → Nat) → zH → Prop} (C : zc X E b_Pf_cutBox 4 "BranchTrees$Proof" (zR 2)) (Z : zr X E none 0 0 post) {sz : Nat} (hsz : sz ≤ al) (hal : al ≤ 600) {n : Nat} (hn : n ≤ 8) {T : Nat → Nat → Int32} (hpost : ∀ h, zRep E ad al T pa h → post none ad h) :
    ∀ (k i : Nat) (q : Option Nat) (m : Nat → Nat → Int32) (w : Nat), 600 - i = k → i ≤ 600 → m 14 1 = nI sz → m 1 7 = nI n → (∀ j, q = some j → j < al) → cbL sz k q m = T → ∀ h, zRep E ad al m pa h → zz X E 4 ad 0 0 25 [some (.ref (ad 18)), some (.ref w), some (ndV ad q), some (.int (nI i))] [] h := by
  intro k
  induction k with
  | zero =>
    intro i q m w hk hin hS hN hq hT h hR
    have e : i = 600 := by omega
    subst e
    have hT : m = T := hT
    refine zz_iload_n C d_Pf_cutBox_25 rfl rfl ?_
    refine zz_sipush (v := 600) C d_Pf_cutBox_26 (by decide) ?_
    refine zz_icmp_ge (tgt := 87) C d_Pf_cutBox_29 (by decide) (fun c_29 => ?_) (fun c_29 => ?_)
    · refine zz_vret C Z d_Pf_cutBox_87 ?_
      exact hpost h (hT ▸ hR)
    · exact absurd (by decide) c_29
  | succ k ih =>
    intro i q m w hk hin hS hN hq hT h hR
    have hlt : i < 600 := by omega
    cases q with
    | none =>
      have hT : m = T := hT
      refine zz_iload_n C d_Pf_cutBox_25 rfl rfl ?_
      refine zz_sipush (v := 600) C d_Pf_cutBox_26 (by decide) ?_
      refine zz_icmp_ge (tgt := 87) C d_Pf_cutBox_29 (by decide) (fun c_29 => ?_) (fun c_29 => ?_)
      · exact absurd c_29 (nI_ge (b := 600) hlt (by decide))
      · refine zz_aload_nN C d_Pf_cutBox_32 rfl rfl ?_
        refine zz_ifnullN (tgt := 87) C d_Pf_cutBox_33 (by decide) ?_
        refine zz_vret C Z d_Pf_cutBox_87 ?_
        exact hpost h (hT ▸ hR)
    | some j =>
      have hja : j < al := hq j rfl
      have hT : cbL sz k (atO sz (m (100 + 4 * j) 2)) (cbS m j) = T := hT
      refine zz_iload_n C d_Pf_cutBox_25 rfl rfl ?_
      refine zz_sipush (v := 600) C d_Pf_cutBox_26 (by decide) ?_
      refine zz_icmp_ge (tgt := 87) C d_Pf_cutBox_29 (by decide) (fun c_29 => ?_) (fun c_29 => ?_)
      · exact absurd c_29 (nI_ge (b := 600) hlt (by decide))
      · refine zz_aload_n C d_Pf_cutBox_32 rfl rfl ?_
        refine zz_ifnull C d_Pf_cutBox_33 ?_
        refine zz_aload_n C d_Pf_cutBox_36 rfl rfl ?_
        refine zz_get C d_Pf_cutBox_37 zf_Pf_18 ((hR _).trans rfl) rfl ?_
        refine zz_aload_n C d_Pf_cutBox_40 rfl rfl ?_
        refine zz_get C d_Pf_cutBox_41 zf_Pf_85 ((hR _).trans (zb_nd0 E ad hja _ _)) rfl ?_
        refine zz_callVr (e := 0) C hR d_Pf_cutBox_44 mk_Pf_88 zy_Pb_hasName m_Pb_hasName ⟨by decide, by decide⟩ ⟨Nat.zero_le _, Nat.zero_le _⟩ rfl rfl rfl rfl (Nat.le_of_ble_eq_true rfl) ?_
        refine zz_if_eq (tgt := 69) C d_Pf_cutBox_47 (by decide) (fun c_47 => ?_) (fun c_47 => ?_)
        · rw [show cbS m j = m by unfold cbS; rw [if_pos c_47]] at hT
          have hm2 : m (100 + 4 * j) 2 = m (100 + 4 * j) 2 := rfl
          have hmS := hS
          have hmN := hN
          refine zz_aload_n C d_Pf_cutBox_69 rfl rfl ?_
          refine zz_get C d_Pf_cutBox_70 zf_Pf_22 ((hR _).trans rfl) rfl ?_
          refine zz_aload_n C d_Pf_cutBox_73 rfl rfl ?_
          refine zz_getV C hR (m (100 + 4 * j) 2) _ d_Pf_cutBox_74 zf_Pf_56 (zb_nd0 E ad hja _ _) rfl (by rw [hm2]) ?_
          rcases atO_cases (m (100 + 4 * j) 2) (sz := sz) (by omega) with ⟨hx, ho⟩ | ⟨p, hp, hx, ho⟩
          · refine zz_callVr (e := 0) C hR d_Pf_cutBox_77 mk_Pf_43 zy_Tr_at (m_Tr_at_no (by rw [hmS]; exact hx)) ⟨by decide, by decide⟩ ⟨Nat.zero_le _, Nat.zero_le _⟩ rfl rfl rfl rfl (Nat.le_of_ble_eq_true rfl) ?_
            refine zz_astore_nN C d_Pf_cutBox_80 rfl (by decide) rfl ?_
            refine zz_iinc C d_Pf_cutBox_81 rfl (nI_inc _) (by decide) rfl ?_
            refine zz_goto (tgt := 25) C d_Pf_cutBox_84 (by decide) ?_
            rw [ho] at hT
            exact ih (i + 1) none _ _ (by omega) hlt hmS hmN (fun j q => by cases q) hT h hR
          · rw [hx]
            refine zz_callVr (e := 0) C hR d_Pf_cutBox_77 mk_Pf_43 zy_Tr_at (m_Tr_at hmS hsz hal hp) ⟨by decide, by decide⟩ ⟨Nat.zero_le _, Nat.zero_le _⟩ rfl rfl rfl rfl (Nat.le_of_ble_eq_true rfl) ?_
            refine zz_astore_n C d_Pf_cutBox_80 rfl (by decide) rfl ?_
            refine zz_iinc C d_Pf_cutBox_81 rfl (nI_inc _) (by decide) rfl ?_
            refine zz_goto (tgt := 25) C d_Pf_cutBox_84 (by decide) ?_
            rw [ho] at hT
            exact ih (i + 1) (some p) _ _ (by omega) hlt hmS hmN (fun j q => by cases q; omega) hT h hR
        · obtain ⟨a, ha, hx3⟩ := hasN_ok (by rw [hN] at c_47; exact c_47) (show n < 2 ^ 31 by omega)
          refine zz_aload_n C d_Pf_cutBox_50 rfl rfl ?_
          refine zz_get C d_Pf_cutBox_51 zf_Pf_12 ((hR _).trans rfl) rfl ?_
          refine zz_aload_n C d_Pf_cutBox_54 rfl rfl ?_
          refine zz_getV C hR (nI a) _ d_Pf_cutBox_55 zf_Pf_85 (zb_nd0 E ad hja _ _) rfl (by rw [hx3]) ?_
          refine zz_aload_n C d_Pf_cutBox_58 rfl rfl ?_
          refine zz_get C d_Pf_cutBox_59 zf_Pf_92 ((hR _).trans (zb_nd0 E ad hja _ _)) rfl ?_
          refine zz_aload_n C d_Pf_cutBox_62 rfl rfl ?_
          refine zz_get C d_Pf_cutBox_63 zf_Pf_95 ((hR _).trans (zb_nd0 E ad hja _ _)) rfl ?_
          refine zz_callVv (e := 1) C hR d_Pf_cutBox_66 mk_Pf_98 zy_Bx_cut (m_Bx_cut (kb := 19) (kl := 20) (kh := 21) (by omega) (fun _ _ => rfl) (fun _ _ => rfl) (fun _ _ => rfl)) ⟨by decide, by decide⟩ ⟨Nat.zero_le _, Nat.zero_le _⟩ rfl rfl rfl rfl (Nat.le_of_ble_eq_true rfl) (fun h hR => ?_)
          rw [show cbS m j = cutF m 20 21 a (m (100 + 4 * j) 4) (m (100 + 4 * j) 5) by unfold cbS; rw [if_neg c_47, hx3, nI_clamp (by omega)]] at hT
          have hm2 : cutF m 20 21 a (m (100 + 4 * j) 4) (m (100 + 4 * j) 5) (100 + 4 * j) 2 = m (100 + 4 * j) 2 := by rw [cutF_fr (by omega) (by omega)]
          have hmS : cutF m 20 21 a (m (100 + 4 * j) 4) (m (100 + 4 * j) 5) 14 1 = nI sz := by rw [cutF_fr (by omega) (by omega)]; exact hS
          have hmN : cutF m 20 21 a (m (100 + 4 * j) 4) (m (100 + 4 * j) 5) 1 7 = nI n := by rw [cutF_fr (by omega) (by omega)]; exact hN
          refine zz_aload_n C d_Pf_cutBox_69 rfl rfl ?_
          refine zz_get C d_Pf_cutBox_70 zf_Pf_22 ((hR _).trans rfl) rfl ?_
          refine zz_aload_n C d_Pf_cutBox_73 rfl rfl ?_
          refine zz_getV C hR (m (100 + 4 * j) 2) _ d_Pf_cutBox_74 zf_Pf_56 (zb_nd0 E ad hja _ _) rfl (by rw [hm2]) ?_
          rcases atO_cases (m (100 + 4 * j) 2) (sz := sz) (by omega) with ⟨hx, ho⟩ | ⟨p, hp, hx, ho⟩
          · refine zz_callVr (e := 0) C hR d_Pf_cutBox_77 mk_Pf_43 zy_Tr_at (m_Tr_at_no (by rw [hmS]; exact hx)) ⟨by decide, by decide⟩ ⟨Nat.zero_le _, Nat.zero_le _⟩ rfl rfl rfl rfl (Nat.le_of_ble_eq_true rfl) ?_
            refine zz_astore_nN C d_Pf_cutBox_80 rfl (by decide) rfl ?_
            refine zz_iinc C d_Pf_cutBox_81 rfl (nI_inc _) (by decide) rfl ?_
            refine zz_goto (tgt := 25) C d_Pf_cutBox_84 (by decide) ?_
            rw [ho] at hT
            exact ih (i + 1) none _ _ (by omega) hlt hmS hmN (fun j q => by cases q) hT h hR
          · rw [hx]
            refine zz_callVr (e := 0) C hR d_Pf_cutBox_77 mk_Pf_43 zy_Tr_at (m_Tr_at hmS hsz hal hp) ⟨by decide, by decide⟩ ⟨Nat.zero_le _, Nat.zero_le _⟩ rfl rfl rfl rfl (Nat.le_of_ble_eq_true rfl) ?_
            refine zz_astore_n C d_Pf_cutBox_80 rfl (by decide) rfl ?_
            refine zz_iinc C d_Pf_cutBox_81 rfl (nI_inc _) (by decide) rfl ?_
            refine zz_goto (tgt := 25) C d_Pf_cutBox_84 (by decide) ?_
            rw [ho] at hT
            exact ih (i + 1) (some p) _ _ (by omega) hlt hmS hmN (fun j q => by cases q; omega) hT h hR
set_option maxRecDepth 100000 in
set_option maxHeartbeats 4000000 in
theorem m_Pf_cutBox {sz : Nat} (hS : μ 14 1 = nI sz) (hsz : sz ≤ al) (hal : al ≤ 600) {n : Nat} (hn : n ≤ 8) (hN : μ 1 7 = nI n) {j : Nat} (hj : j < al) : wMet l y_Pf_cutBox b_Pf_cutBox 4 none (zR 2) E [.ref (ad 18), .ref (ad (100 + 4 * j))] ad al μ pa none (cbF sz μ j) pa := by
  intro h hR
  refine zMet.of (L := [some (.ref (ad 18)), some (.ref (ad (100 + 4 * j))), none, none]) (by decide +kernel) (Nat.le_of_ble_eq_true rfl) rfl 2 rfl fun X hl C Z => ?_
  refine zz_aload_n C d_Pf_cutBox_0 rfl rfl ?_
  refine zz_get C d_Pf_cutBox_1 zf_Pf_12 ((hR _).trans rfl) rfl ?_
  refine zz_aload_n C d_Pf_cutBox_4 rfl rfl ?_
  refine zz_get C d_Pf_cutBox_5 zf_Pf_18 ((hR _).trans rfl) rfl ?_
  refine zz_get C d_Pf_cutBox_8 zf_Pf_72 ((hR _).trans rfl) rfl ?_
  refine zz_aload_n C d_Pf_cutBox_11 rfl rfl ?_
  refine zz_get C d_Pf_cutBox_12 zf_Pf_18 ((hR _).trans rfl) rfl ?_
  refine zz_get C d_Pf_cutBox_15 zf_Pf_78 ((hR _).trans rfl) rfl ?_
  refine zz_callVv (e := 0) C hR d_Pf_cutBox_18 mk_Pf_81 zy_Bx_copyFrom (m_Bx_copyFrom (kb := 19) (kl := 20) (kh := 21) (ka := 2) (kc := 3) (fun _ _ => rfl) (fun _ _ => rfl) (fun _ _ => rfl) (fun _ _ => rfl) (fun _ _ => rfl) (by omega) (by omega) (by omega) (by omega) (by omega)) ⟨by decide, by decide⟩ ⟨Nat.zero_le _, Nat.zero_le _⟩ rfl rfl rfl rfl (Nat.le_of_ble_eq_true rfl) (fun h hR => ?_)
  refine zz_aload_n C d_Pf_cutBox_21 rfl rfl ?_
  refine zz_astore_n C d_Pf_cutBox_22 rfl (by decide) rfl ?_
  refine zz_iconst (v := 0) C d_Pf_cutBox_23 (by decide) ?_
  refine zz_istore_n C d_Pf_cutBox_24 rfl (by decide) rfl ?_
  exact lp_Pf_cutBox C Z hsz hal hn (fun h hR => ⟨rfl, rfl, hR⟩) 600 0 (some j) (cpF μ 20 21 2 3 8) _ rfl (Nat.zero_le _) (by rw [cpF_fr (by omega) (by omega)]; exact hS) (by rw [cpF_fr (by omega) (by omega)]; exact hN) (fun q e => by cases e; exact hj) rfl h hR
set_option maxRecDepth 100000 in
set_option maxHeartbeats 4000000 in
theorem m_Pf_isProven {sz : Nat} (hS : μ 14 1 = nI sz) (hsz : sz ≤ al) (hal : al ≤ 600) {n : Nat} (hn : n ≤ 8) (hN : μ 1 7 = nI n) {rc : Nat} (hrc : rc ≤ 16) (hM : μ 1 8 = nI rc) {j : Nat} (hj : j < al) : wMet l y_Pf_isProven b_Pf_isProven 2 (some .boolean) (zR 4) E [.ref (ad 18), .ref (ad (100 + 4 * j))] ad al μ pa (some (.int (ipF sz n rc μ j).1)) (ipF sz n rc μ j).2 pa := by
  intro h hR
  refine zMet.of (L := [some (.ref (ad 18)), some (.ref (ad (100 + 4 * j)))]) (by decide +kernel) (Nat.le_of_ble_eq_true rfl) rfl 0 rfl fun X hl C Z => ?_
  refine zz_aload_n C d_Pf_isProven_0 rfl rfl ?_
  refine zz_get C d_Pf_isProven_1 zf_Pf_59 ((hR _).trans (zb_nd0 E ad hj _ _)) rfl ?_
  refine zz_iconst (v := 1) C d_Pf_isProven_4 (by decide) ?_
  refine zz_icmp_ne (tgt := 22) C d_Pf_isProven_5 (by decide) (fun c_5 => ?_) (fun c_5 => ?_)
  · refine zz_aload_n C d_Pf_isProven_22 rfl rfl ?_
    refine zz_aload_n C d_Pf_isProven_23 rfl rfl ?_
    refine zz_callVv (e := 2) C hR d_Pf_isProven_24 mk_Pf_62 zy_Pf_cutBox (m_Pf_cutBox hS hsz hal hn hN hj) ⟨by decide, by decide⟩ ⟨Nat.zero_le _, Nat.zero_le _⟩ rfl rfl rfl rfl (Nat.le_of_ble_eq_true rfl) (fun h hR => ?_)
    refine zz_aload_n C d_Pf_isProven_27 rfl rfl ?_
    refine zz_get C d_Pf_isProven_28 zf_Pf_26 ((hR _).trans rfl) rfl ?_
    refine zz_aload_n C d_Pf_isProven_31 rfl rfl ?_
    refine zz_get C d_Pf_isProven_32 zf_Pf_12 ((hR _).trans rfl) rfl ?_
    refine zz_callVw (e := 3) C hR d_Pf_isProven_35 mk_Pf_66 zy_Nr_narrow (m_Nr_narrow hn (by rw [cbF_fr (by omega) (by omega)]; exact hN) (kb := 19) (kl := 20) (kh := 21) ⟨fun _ _ => rfl, fun _ _ => rfl, fun _ _ => rfl, by omega, Or.inl rfl, Or.inl rfl⟩ hrc (by rw [cbF_fr (by omega) (by omega)]; exact hM)) ⟨by decide, by decide⟩ ⟨Nat.zero_le _, Nat.zero_le _⟩ rfl rfl rfl rfl (Nat.le_of_ble_eq_true rfl) (fun h hR => ?_)
    refine zz_bipush (v := -2) C d_Pf_isProven_38 (by decide) ?_
    refine zz_icmp_eq (tgt := 47) C d_Pf_isProven_40 (by decide) (fun c_40 => ?_) (fun c_40 => ?_)
    · refine zz_iconst (v := 0) C d_Pf_isProven_47 (by decide) ?_
      refine zz_zret C Z d_Pf_isProven_48 (by first | rfl | decide | assumption) ?_
      exact ⟨by simp [ipF, c_5, c_40], rfl, by simpa [ipF, c_5, c_40] using hR⟩
    · refine zz_iconst (v := 1) C d_Pf_isProven_43 (by decide) ?_
      refine zz_goto (tgt := 48) C d_Pf_isProven_44 (by decide) ?_
      refine zz_zret C Z d_Pf_isProven_48 (by first | rfl | decide | assumption) ?_
      exact ⟨by simp [ipF, c_5, c_40], rfl, by simpa [ipF, c_5, c_40] using hR⟩
  · refine zz_aload_n C d_Pf_isProven_8 rfl rfl ?_
    refine zz_get C d_Pf_isProven_9 zf_Pf_51 ((hR _).trans (zb_nd0 E ad hj _ _)) rfl ?_
    refine zz_iconst (v := 2) C d_Pf_isProven_12 (by decide) ?_
    refine zz_icmp_ne (tgt := 20) C d_Pf_isProven_13 (by decide) (fun c_13 => ?_) (fun c_13 => ?_)
    · refine zz_iconst (v := 0) C d_Pf_isProven_20 (by decide) ?_
      refine zz_zret C Z d_Pf_isProven_21 (by first | rfl | decide | assumption) ?_
      exact ⟨by simp [ipF, c_5, c_13], rfl, by simpa [ipF, c_5, c_13] using hR⟩
    · refine zz_iconst (v := 1) C d_Pf_isProven_16 (by decide) ?_
      refine zz_goto (tgt := 21) C d_Pf_isProven_17 (by decide) ?_
      refine zz_zret C Z d_Pf_isProven_21 (by first | rfl | decide | assumption) ?_
      exact ⟨by simp [ipF, c_5, c_13], rfl, by simpa [ipF, c_5, c_13] using hR⟩
set_option maxRecDepth 100000 in
set_option maxHeartbeats 4000000 in
theorem lp_Pf_holds {X : zX} {post : Option Value → (Nat → Nat) → zH → Prop} (C : zc X E b_Pf_holds 3 "BranchTrees$Proof" (zR 5)) (Z : zr X E (some .boolean) 0 0 post) {sz : Nat} (hsz : sz ≤ al) (hal : al ≤ 600) {n : Nat} (hn : n ≤ 8) {rc : Nat} (hrc : rc ≤ 16) {T : Int32 × (Nat → Nat → Int32)} (hpost : ∀ h, zRep E ad al T.2 pa h → post (some (.int T.1)) ad h) :
    ∀ (k i : Nat) (m : Nat → Nat → Int32) (w : Option Value), sz - i = k → i ≤ sz → m 14 1 = nI sz → m 1 7 = nI n → m 1 8 = nI rc → hoL sz n rc k i m = T → ∀ h, zRep E ad al m pa h → zz X E 3 ad 0 0 19 [some (.ref (ad 18)), some (.int (nI i)), w] [] h := by
  intro k
  induction k with
  | zero =>
    intro i m w hk hin hS hN hM hT h hR
    have e : i = sz := by omega
    subst e
    simp only [hoL] at hT
    subst hT
    refine zz_iload_n C d_Pf_holds_19 rfl rfl ?_
    refine zz_aload_n C d_Pf_holds_20 rfl rfl ?_
    refine zz_get C d_Pf_holds_21 zf_Pf_22 ((hR _).trans rfl) rfl ?_
    refine zz_getV C hR (nI i) _ d_Pf_holds_24 zf_Pf_39 rfl rfl hS ?_
    refine zz_icmp_ge (tgt := 59) C d_Pf_holds_27 (by decide) (fun c_27 => ?_) (fun c_27 => ?_)
    · refine zz_iconst (v := 1) C d_Pf_holds_59 (by decide) ?_
      refine zz_zret C Z d_Pf_holds_60 (by first | rfl | decide | assumption) ?_
      exact hpost h hR
    · exact absurd (nI_le (Nat.le_refl _) (by omega)) c_27
  | succ k ih =>
    intro i m w hk hin hS hN hM hT h hR
    have hlt : i < sz := by omega
    simp only [hoL] at hT
    refine zz_iload_n C d_Pf_holds_19 rfl rfl ?_
    refine zz_aload_n C d_Pf_holds_20 rfl rfl ?_
    refine zz_get C d_Pf_holds_21 zf_Pf_22 ((hR _).trans rfl) rfl ?_
    refine zz_getV C hR (nI sz) _ d_Pf_holds_24 zf_Pf_39 rfl rfl hS ?_
    refine zz_icmp_ge (tgt := 59) C d_Pf_holds_27 (by decide) (fun c_27 => ?_) (fun c_27 => ?_)
    · exact absurd c_27 (nI_ge hlt (by omega))
    · refine zz_aload_n C d_Pf_holds_30 rfl rfl ?_
      refine zz_get C d_Pf_holds_31 zf_Pf_22 ((hR _).trans rfl) rfl ?_
      refine zz_iload_n C d_Pf_holds_34 rfl rfl ?_
      refine zz_callVr (e := 0) C hR d_Pf_holds_35 mk_Pf_43 zy_Tr_at (m_Tr_at hS hsz hal hlt) ⟨by decide, by decide⟩ ⟨Nat.zero_le _, Nat.zero_le _⟩ rfl rfl rfl rfl (Nat.le_of_ble_eq_true rfl) ?_
      refine zz_astore_n C d_Pf_holds_38 rfl (by decide) rfl ?_
      refine zz_aload_n C d_Pf_holds_39 rfl rfl ?_
      refine zz_ifnull C d_Pf_holds_40 ?_
      refine zz_aload_n C d_Pf_holds_43 rfl rfl ?_
      refine zz_aload_n C d_Pf_holds_44 rfl rfl ?_
      refine zz_callVw (e := 4) C hR d_Pf_holds_45 mk_Pf_47 zy_Pf_isProven (m_Pf_isProven hS hsz hal hn hN hrc hM (by omega)) ⟨by decide, by decide⟩ ⟨Nat.zero_le _, Nat.zero_le _⟩ rfl rfl rfl rfl (Nat.le_of_ble_eq_true rfl) (fun h hR => ?_)
      refine zz_if_ne (tgt := 53) C d_Pf_holds_48 (by decide) (fun c_48 => ?_) (fun c_48 => ?_)
      · refine zz_iinc C d_Pf_holds_53 rfl (nI_inc _) (by decide) rfl ?_
        refine zz_goto (tgt := 19) C d_Pf_holds_56 (by decide) ?_
        rw [if_pos c_48] at hT
        exact ih (i + 1) _ _ (by omega) hlt (by rw [ipF_fr (by omega) (by omega) (by omega)]; exact hS) (by rw [ipF_fr (by omega) (by omega) (by omega)]; exact hN) (by rw [ipF_fr (by omega) (by omega) (by omega)]; exact hM) hT h hR
      · refine zz_iconst (v := 0) C d_Pf_holds_51 (by decide) ?_
        refine zz_zret C Z d_Pf_holds_52 (by first | rfl | decide | assumption) ?_
        rw [if_neg (fun q => q c_48)] at hT
        subst hT
        exact hpost h hR
set_option maxRecDepth 100000 in
set_option maxHeartbeats 4000000 in
theorem m_Pf_holds {sz : Nat} (hS : μ 14 1 = nI sz) (hsz : sz ≤ al) (hal : al ≤ 600) {n : Nat} (hn : n ≤ 8) (hN : μ 1 7 = nI n) {rc : Nat} (hrc : rc ≤ 16) (hM : μ 1 8 = nI rc) : wMet l y_Pf_holds b_Pf_holds 3 (some .boolean) (zR 5) E [.ref (ad 18)] ad al μ pa (some (.int (hoF sz n rc μ).1)) (hoF sz n rc μ).2 pa := by
  intro h hR
  refine zMet.of (L := [some (.ref (ad 18)), none, none]) (by decide +kernel) (Nat.le_of_ble_eq_true rfl) rfl 2 rfl fun X hl C Z => ?_
  refine zz_aload_n C d_Pf_holds_0 rfl rfl ?_
  refine zz_get C d_Pf_holds_1 zf_Pf_22 ((hR _).trans rfl) rfl ?_
  refine zz_iconst (v := 0) C d_Pf_holds_4 (by decide) ?_
  refine zz_callVr (e := 0) C hR d_Pf_holds_5 mk_Pf_30 zy_Tr_countOf (m_Tr_countOf hS hsz hal) ⟨by decide, by decide⟩ ⟨Nat.zero_le _, Nat.zero_le _⟩ rfl rfl rfl rfl (Nat.le_of_ble_eq_true rfl) ?_
  refine zz_if_le (tgt := 13) C d_Pf_holds_8 (by decide) (fun c_8 => ?_) (fun c_8 => ?_)
  · refine zz_aload_n C d_Pf_holds_13 rfl rfl ?_
    refine zz_callVv (e := 1) C hR d_Pf_holds_14 mk_Pf_36 zy_Pf_countChildren (m_Pf_countChildren hS hsz hal) ⟨by decide, by decide⟩ ⟨Nat.zero_le _, Nat.zero_le _⟩ rfl rfl rfl rfl (Nat.le_of_ble_eq_true rfl) (fun h hR => ?_)
    refine zz_iconst (v := 0) C d_Pf_holds_17 (by decide) ?_
    refine zz_istore_n C d_Pf_holds_18 rfl (by decide) rfl ?_
    refine lp_Pf_holds C Z hsz hal hn hrc (T := hoF sz n rc μ) (fun h hR => ⟨rfl, rfl, hR⟩) sz 0 _ _ rfl (Nat.zero_le _) (by rw [ccF_fr (by omega)]; exact hS) (by rw [ccF_fr (by omega)]; exact hN) (by rw [ccF_fr (by omega)]; exact hM) (by simp only [hoF, c_8, if_true]) h hR
  · refine zz_iconst (v := 0) C d_Pf_holds_11 (by decide) ?_
    refine zz_zret C Z d_Pf_holds_12 (by first | rfl | decide | assumption) ?_
    exact ⟨by simp [hoF, c_8], rfl, by simpa [hoF, c_8] using hR⟩
end PROOF
