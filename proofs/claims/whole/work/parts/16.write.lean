/-! BOX, BEST, PRICES: what writes -/
section WRITE
variable {l : Launch} {E : zE} {ad : Nat → Nat} {al : Nat} {μ : Nat → Nat → Int32} {pa : Nat → Nat → Int64}
def cpF (μ : Nat → Nat → Int32) (kl kh ka kc : Nat) (i : Nat) : Nat → Nat → Int32 := va_up (va_up μ kl (cpn i (μ ka) (μ kl))) kh (cpn i (μ kc) (μ kh))
set_option maxRecDepth 100000 in
set_option maxHeartbeats 4000000 in
theorem lp_Bx_copyFrom {X : zX} {post : Option Value → (Nat → Nat) → zH → Prop} (C : zc X E b_Bx_copyFrom 4 "BranchTrees$Box" (zR 0)) (Z : zr X E none 0 0 post) {kb kl kh ka kc : Nat} (hB : isB E ad al kb kl kh) (hL : isA E ad al kl 8) (hH : isA E ad al kh 8) (hA : isA E ad al ka 8) (hC : isA E ad al kc 8) (n1 : kl ≠ kh) (a1 : ka ≠ kl) (a2 : ka ≠ kh) (c1 : kc ≠ kl) (c2 : kc ≠ kh) (hpost : ∀ h, zRep E ad al (cpF μ kl kh ka kc 8) pa h → post none ad h) :
    ∀ (k i : Nat), 8 - i = k → i ≤ 8 → ∀ h, zRep E ad al (cpF μ kl kh ka kc i) pa h → zz X E 4 ad 0 0 2 [some (.ref (ad kb)), some (.ref (ad ka)), some (.ref (ad kc)), some (.int (nI i))] [] h := by
  intro k
  induction k with
  | zero =>
    intro i hk hin h hR
    have e : i = 8 := by omega
    subst e
    refine zz_iload_n C d_Bx_copyFrom_2 rfl rfl ?_
    refine zz_bipush (v := 8) C d_Bx_copyFrom_3 (by decide) ?_
    refine zz_icmp_ge (tgt := 32) C d_Bx_copyFrom_5 (by decide) (fun c_5 => ?_) (fun c_5 => ?_)
    · refine zz_vret C Z d_Bx_copyFrom_32 ?_
      exact hpost h hR
    · exact absurd (by decide) c_5
  | succ k ih =>
    intro i hk hin h hR
    have hlt : i < 8 := by omega
    have e1 : cpF μ kl kh ka kc i ka i = μ ka i := by unfold cpF; rw [va_up_ne _ _ a2, va_up_ne _ _ a1]
    have e2 : cpF μ kl kh ka kc i kl = cpn i (μ ka) (μ kl) := by unfold cpF; rw [va_up_ne _ _ n1, va_up_self]
    have e3 : cpF μ kl kh ka kc i kh = cpn i (μ kc) (μ kh) := by unfold cpF; rw [va_up_self]
    have e4 : va_up (cpF μ kl kh ka kc i) kl (upd (cpF μ kl kh ka kc i kl) i (μ ka i)) kc i = μ kc i := by rw [va_up_ne _ _ c1]; unfold cpF; rw [va_up_ne _ _ c2, va_up_ne _ _ c1]
    have e5 : va_up (va_up (cpF μ kl kh ka kc i) kl (upd (cpF μ kl kh ka kc i kl) i (μ ka i))) kh (upd (va_up (cpF μ kl kh ka kc i) kl (upd (cpF μ kl kh ka kc i kl) i (μ ka i)) kh) i (μ kc i)) = cpF μ kl kh ka kc (i + 1) := by
      rw [va_up_ne _ _ (Ne.symm n1), e3, e2, cpn_s, cpn_s]
      unfold cpF
      rw [va_up_com (Ne.symm n1), bx_uu, bx_uu]
    refine zz_iload_n C d_Bx_copyFrom_2 rfl rfl ?_
    refine zz_bipush (v := 8) C d_Bx_copyFrom_3 (by decide) ?_
    refine zz_icmp_ge (tgt := 32) C d_Bx_copyFrom_5 (by decide) (fun c_5 => ?_) (fun c_5 => ?_)
    · exact absurd c_5 (nI_ge (b := 8) hlt (by decide))
    · refine zz_aload_n C d_Bx_copyFrom_8 rfl rfl ?_
      refine zz_get C d_Bx_copyFrom_9 zf_Bx_9 ((hR _).trans (hB _ _)) rfl ?_
      refine zz_iload_n C d_Bx_copyFrom_12 rfl rfl ?_
      refine zz_aload_n C d_Bx_copyFrom_13 rfl rfl ?_
      refine zz_iload_n C d_Bx_copyFrom_14 rfl rfl ?_
      refine zz_ialdV (j := i) C hR (μ ka i) d_Bx_copyFrom_15 hA rfl hlt (by decide) e1 ?_
      refine zz_iastR (j := i) C hR d_Bx_copyFrom_16 hL rfl hlt (by decide) (fun h hR => ?_)
      refine zz_aload_n C d_Bx_copyFrom_17 rfl rfl ?_
      refine zz_get C d_Bx_copyFrom_18 zf_Bx_15 ((hR _).trans (hB _ _)) rfl ?_
      refine zz_iload_n C d_Bx_copyFrom_21 rfl rfl ?_
      refine zz_aload_n C d_Bx_copyFrom_22 rfl rfl ?_
      refine zz_iload_n C d_Bx_copyFrom_23 rfl rfl ?_
      refine zz_ialdV (j := i) C hR (μ kc i) d_Bx_copyFrom_24 hC rfl hlt (by decide) e4 ?_
      refine zz_iastR (j := i) C hR d_Bx_copyFrom_25 hH rfl hlt (by decide) (fun h hR => ?_)
      refine zz_iinc C d_Bx_copyFrom_26 rfl (nI_inc _) (by decide) rfl ?_
      refine zz_goto (tgt := 2) C d_Bx_copyFrom_29 (by decide) ?_
      rw [e5] at hR
      exact ih (i + 1) (by omega) hlt h hR
set_option maxRecDepth 100000 in
set_option maxHeartbeats 4000000 in
theorem m_Bx_copyFrom {kb kl kh ka kc : Nat} (hB : isB E ad al kb kl kh) (hL : isA E ad al kl 8) (hH : isA E ad al kh 8) (hA : isA E ad al ka 8) (hC : isA E ad al kc 8) (n1 : kl ≠ kh) (a1 : ka ≠ kl) (a2 : ka ≠ kh) (c1 : kc ≠ kl) (c2 : kc ≠ kh) : wMet l y_Bx_copyFrom b_Bx_copyFrom 4 none (zR 0) E [.ref (ad kb), .ref (ad ka), .ref (ad kc)] ad al μ pa none (cpF μ kl kh ka kc 8) pa := by
  intro h hR
  refine zMet.of (L := [some (.ref (ad kb)), some (.ref (ad ka)), some (.ref (ad kc)), none]) (by decide +kernel) (Nat.le_of_ble_eq_true rfl) rfl 1 rfl fun X hl C Z => ?_
  refine zz_iconst (v := 0) C d_Bx_copyFrom_0 (by decide) ?_
  refine zz_istore_n C d_Bx_copyFrom_1 rfl (by decide) rfl ?_
  exact lp_Bx_copyFrom C Z hB hL hH hA hC n1 a1 a2 c1 c2 (fun h hR => ⟨rfl, rfl, hR⟩) 8 0 rfl (Nat.zero_le _) h (hR.eq (by unfold cpF; rw [cpn_0, cpn_0, va_up_id, va_up_id]) rfl)
def tk0 (μ : Nat → Nat → Int32) (ka i : Nat) : Nat → Nat → Int32 := va_up μ 10 (cpn i (μ ka) (μ 10))
def tkF (μ : Nat → Nat → Int32) (ka : Nat) (c : Int32) : Nat → Nat → Int32 := va_up (tk0 μ ka 8) 9 (upd (upd (μ 9) 2 c) 1 1)
set_option maxRecDepth 100000 in
set_option maxHeartbeats 4000000 in
theorem lp_Be_take {X : zX} {post : Option Value → (Nat → Nat) → zH → Prop} (C : zc X E b_Be_take 4 "BranchTrees$Best" (zR 0)) (Z : zr X E none 0 0 post) {ka : Nat} {c : Int32} (hA : isA E ad al ka 8) (a1 : ka ≠ 10) (hpost : ∀ h, zRep E ad al (tkF μ ka c) pa h → post none ad h) :
    ∀ (k i : Nat), 8 - i = k → i ≤ 8 → ∀ h, zRep E ad al (tk0 μ ka i) pa h → zz X E 4 ad 0 0 2 [some (.ref (ad 9)), some (.ref (ad ka)), some (.int c), some (.int (nI i))] [] h := by
  intro k
  induction k with
  | zero =>
    intro i hk hin h hR
    have e : i = 8 := by omega
    subst e
    refine zz_iload_n C d_Be_take_2 rfl rfl ?_
    refine zz_bipush (v := 8) C d_Be_take_3 (by decide) ?_
    refine zz_icmp_ge (tgt := 23) C d_Be_take_5 (by decide) (fun c_5 => ?_) (fun c_5 => ?_)
    · refine zz_aload_n C d_Be_take_23 rfl rfl ?_
      refine zz_iload_n C d_Be_take_24 rfl rfl ?_
      refine zz_putI C hR d_Be_take_25 zp_Be_19 rfl rfl rfl (Nat.le_of_ble_eq_true rfl) rfl (fun h hR => ?_)
      refine zz_aload_n C d_Be_take_28 rfl rfl ?_
      refine zz_iconst (v := 1) C d_Be_take_29 (by decide) ?_
      refine zz_putI C hR d_Be_take_30 zp_Be_15 rfl rfl rfl (Nat.le_of_ble_eq_true rfl) rfl (fun h hR => ?_)
      refine zz_vret C Z d_Be_take_33 ?_
      exact hpost h (hR.eq (by simp only [bx_uu, va_up_self]; rfl) rfl)
    · exact absurd (by decide) c_5
  | succ k ih =>
    intro i hk hin h hR
    have hlt : i < 8 := by omega
    have e1 : tk0 μ ka i ka i = μ ka i := by unfold tk0; rw [va_up_ne _ _ a1]
    have e5 : va_up (tk0 μ ka i) 10 (upd (tk0 μ ka i 10) i (μ ka i)) = tk0 μ ka (i + 1) := by unfold tk0; rw [va_up_self, cpn_s, bx_uu]
    refine zz_iload_n C d_Be_take_2 rfl rfl ?_
    refine zz_bipush (v := 8) C d_Be_take_3 (by decide) ?_
    refine zz_icmp_ge (tgt := 23) C d_Be_take_5 (by decide) (fun c_5 => ?_) (fun c_5 => ?_)
    · exact absurd c_5 (nI_ge (b := 8) hlt (by decide))
    · refine zz_aload_n C d_Be_take_8 rfl rfl ?_
      refine zz_get C d_Be_take_9 zf_Be_9 ((hR _).trans rfl) rfl ?_
      refine zz_iload_n C d_Be_take_12 rfl rfl ?_
      refine zz_aload_n C d_Be_take_13 rfl rfl ?_
      refine zz_iload_n C d_Be_take_14 rfl rfl ?_
      refine zz_ialdV (j := i) C hR (μ ka i) d_Be_take_15 hA rfl hlt (by decide) e1 ?_
      refine zz_iastR (j := i) C hR d_Be_take_16 (fun _ _ => rfl) rfl hlt (by decide) (fun h hR => ?_)
      refine zz_iinc C d_Be_take_17 rfl (nI_inc _) (by decide) rfl ?_
      refine zz_goto (tgt := 2) C d_Be_take_20 (by decide) ?_
      rw [e5] at hR
      exact ih (i + 1) (by omega) hlt h hR
set_option maxRecDepth 100000 in
set_option maxHeartbeats 4000000 in
theorem m_Be_take {ka : Nat} {c : Int32} (hA : isA E ad al ka 8) (a1 : ka ≠ 10) : wMet l y_Be_take b_Be_take 4 none (zR 0) E [.ref (ad 9), .ref (ad ka), .int c] ad al μ pa none (tkF μ ka c) pa := by
  intro h hR
  refine zMet.of (L := [some (.ref (ad 9)), some (.ref (ad ka)), some (.int c), none]) (by decide +kernel) (Nat.le_of_ble_eq_true rfl) rfl 1 rfl fun X hl C Z => ?_
  refine zz_iconst (v := 0) C d_Be_take_0 (by decide) ?_
  refine zz_istore_n C d_Be_take_1 rfl (by decide) rfl ?_
  exact lp_Be_take C Z hA a1 (fun h hR => ⟨rfl, rfl, hR⟩) 8 0 rfl (Nat.zero_le _) h (hR.eq (by unfold tk0; rw [cpn_0, va_up_id]) rfl)
set_option maxRecDepth 100000 in
set_option maxHeartbeats 4000000 in
theorem m_Pr_learn {j : Nat} {g : Int32} (hj : j < 8) : wMet l y_Pr_learn b_Pr_learn 3 none (zR 0) E [.ref (ad 11), .int (nI j), .int g] ad al μ pa none (va_up μ 13 (upd (μ 13) j (μ 13 j + 2))) (va_up pa 12 (vp_updL (pa 12) j (pa 12 j + g.toInt64))) := by
  intro h hR
  refine zMet.of (L := [some (.ref (ad 11)), some (.int (nI j)), some (.int g)]) (by decide +kernel) (Nat.le_of_ble_eq_true rfl) rfl 0 rfl fun X hl C Z => ?_
  refine zz_aload_n C d_Pr_learn_0 rfl rfl ?_
  refine zz_get C d_Pr_learn_1 zf_Pr_9 ((hR _).trans rfl) rfl ?_
  refine zz_iload_n C d_Pr_learn_4 rfl rfl ?_
  refine zz_dup2 C d_Pr_learn_5 rfl rfl ?_
  refine zz_laldR (j := j) C hR d_Pr_learn_6 (fun _ _ => rfl) rfl hj (by decide) ?_
  refine zz_iload_n C d_Pr_learn_7 rfl rfl ?_
  refine zz_i2l C d_Pr_learn_8 ?_
  refine zz_ladd C d_Pr_learn_9 ?_
  refine zz_lastR (j := j) C hR d_Pr_learn_10 (fun _ _ => rfl) rfl hj (by decide) (fun h hR => ?_)
  refine zz_aload_n C d_Pr_learn_11 rfl rfl ?_
  refine zz_get C d_Pr_learn_12 zf_Pr_15 ((hR _).trans rfl) rfl ?_
  refine zz_iload_n C d_Pr_learn_15 rfl rfl ?_
  refine zz_dup2 C d_Pr_learn_16 rfl rfl ?_
  refine zz_ialdR (j := j) C hR d_Pr_learn_17 (fun _ _ => rfl) rfl hj (by decide) ?_
  refine zz_iconst (v := 2) C d_Pr_learn_18 (by decide) ?_
  refine zz_iadd C d_Pr_learn_19 ?_
  refine zz_iastR (j := j) C hR d_Pr_learn_20 (fun _ _ => rfl) rfl hj (by decide) (fun h hR => ?_)
  refine zz_vret C Z d_Pr_learn_21 ?_
  exact ⟨rfl, rfl, hR⟩
def fgM (μ : Nat → Nat → Int32) (i : Nat) : Nat → Nat → Int32 := va_up μ 13 (cpn i (fun _ => 0) (μ 13))
def fgP (pa : Nat → Nat → Int64) (i : Nat) : Nat → Nat → Int64 := va_up pa 12 (cpn i (fun _ => 0) (pa 12))
set_option maxRecDepth 100000 in
set_option maxHeartbeats 4000000 in
theorem lp_Pr_forget {X : zX} {post : Option Value → (Nat → Nat) → zH → Prop} (C : zc X E b_Pr_forget 2 "BranchTrees$Prices" (zR 0)) (Z : zr X E none 0 0 post) (hpost : ∀ h, zRep E ad al (fgM μ 8) (fgP pa 8) h → post none ad h) :
    ∀ (k i : Nat), 8 - i = k → i ≤ 8 → ∀ h, zRep E ad al (fgM μ i) (fgP pa i) h → zz X E 2 ad 0 0 2 [some (.ref (ad 11)), some (.int (nI i))] [] h := by
  intro k
  induction k with
  | zero =>
    intro i hk hin h hR
    have e : i = 8 := by omega
    subst e
    refine zz_iload_n C d_Pr_forget_2 rfl rfl ?_
    refine zz_bipush (v := 8) C d_Pr_forget_3 (by decide) ?_
    refine zz_icmp_ge (tgt := 28) C d_Pr_forget_5 (by decide) (fun c_5 => ?_) (fun c_5 => ?_)
    · refine zz_vret C Z d_Pr_forget_28 ?_
      exact hpost h hR
    · exact absurd (by decide) c_5
  | succ k ih =>
    intro i hk hin h hR
    have hlt : i < 8 := by omega
    have e5 : va_up (fgM μ i) 13 (upd (fgM μ i 13) i 0) = fgM μ (i + 1) := by
      have := cpn_s i (fun _ => (0 : Int32)) (μ 13)
      unfold fgM; rw [va_up_self, bx_uu, this]
    have e6 : va_up (fgP pa i) 12 (vp_updL (fgP pa i 12) i 0) = fgP pa (i + 1) := by
      have := cpn_sL i (fun _ => (0 : Int64)) (pa 12)
      unfold fgP; rw [va_up_self, bx_uu, this]
    refine zz_iload_n C d_Pr_forget_2 rfl rfl ?_
    refine zz_bipush (v := 8) C d_Pr_forget_3 (by decide) ?_
    refine zz_icmp_ge (tgt := 28) C d_Pr_forget_5 (by decide) (fun c_5 => ?_) (fun c_5 => ?_)
    · exact absurd c_5 (nI_ge (b := 8) hlt (by decide))
    · refine zz_aload_n C d_Pr_forget_8 rfl rfl ?_
      refine zz_get C d_Pr_forget_9 zf_Pr_9 ((hR _).trans rfl) rfl ?_
      refine zz_iload_n C d_Pr_forget_12 rfl rfl ?_
      refine zz_lconst (v := 0) C d_Pr_forget_13 (by decide) ?_
      refine zz_lastR (j := i) C hR d_Pr_forget_14 (fun _ _ => rfl) rfl hlt (by decide) (fun h hR => ?_)
      refine zz_aload_n C d_Pr_forget_15 rfl rfl ?_
      refine zz_get C d_Pr_forget_16 zf_Pr_15 ((hR _).trans rfl) rfl ?_
      refine zz_iload_n C d_Pr_forget_19 rfl rfl ?_
      refine zz_iconst (v := 0) C d_Pr_forget_20 (by decide) ?_
      refine zz_iastR (j := i) C hR d_Pr_forget_21 (fun _ _ => rfl) rfl hlt (by decide) (fun h hR => ?_)
      refine zz_iinc C d_Pr_forget_22 rfl (nI_inc _) (by decide) rfl ?_
      refine zz_goto (tgt := 2) C d_Pr_forget_25 (by decide) ?_
      rw [e5, e6] at hR
      exact ih (i + 1) (by omega) hlt h hR
set_option maxRecDepth 100000 in
set_option maxHeartbeats 4000000 in
theorem m_Pr_forget : wMet l y_Pr_forget b_Pr_forget 2 none (zR 0) E [.ref (ad 11)] ad al μ pa none (fgM μ 8) (fgP pa 8) := by
  intro h hR
  refine zMet.of (L := [some (.ref (ad 11)), none]) (by decide +kernel) (Nat.le_of_ble_eq_true rfl) rfl 1 rfl fun X hl C Z => ?_
  refine zz_iconst (v := 0) C d_Pr_forget_0 (by decide) ?_
  refine zz_istore_n C d_Pr_forget_1 rfl (by decide) rfl ?_
  exact lp_Pr_forget C Z (fun h hR => ⟨rfl, rfl, hR⟩) 8 0 rfl (Nat.zero_le _) h (hR.eq (by unfold fgM; rw [cpn_0, va_up_id]) (by unfold fgP; rw [cpn_0, va_up_id]))
/-! NODE -/
def rtF (μ : Nat → Nat → Int32) (j : Nat) : Nat → Nat → Int32 := cpF (va_up μ (100 + 4 * j) (upd (upd (upd (upd (upd (μ (100 + 4 * j)) 2 (-1)) 3 (-1)) 4 0) 5 0) 6 0)) (100 + 4 * j + 2) (100 + 4 * j + 3) 2 3 8
set_option maxRecDepth 100000 in
set_option maxHeartbeats 4000000 in
theorem m_Nd_becomeRoot {j : Nat} (hj : j < al) : wMet l y_Nd_becomeRoot b_Nd_becomeRoot 2 none (zR 1) E [.ref (ad (100 + 4 * j)), .ref (ad 1)] ad al μ pa none (rtF μ j) pa := by
  intro h hR
  refine zMet.of (L := [some (.ref (ad (100 + 4 * j))), some (.ref (ad 1))]) (by decide +kernel) (Nat.le_of_ble_eq_true rfl) rfl 0 rfl fun X hl C Z => ?_
  refine zz_aload_n C d_Nd_becomeRoot_0 rfl rfl ?_
  refine zz_iconst (v := -1) C d_Nd_becomeRoot_1 (by decide) ?_
  refine zz_putI C hR d_Nd_becomeRoot_2 zp_Nd_22 (zb_nd0 E ad hj _ _) rfl rfl (Nat.le_of_ble_eq_true rfl) (zb_nd0 E ad hj _ _) (fun h hR => ?_)
  refine zz_aload_n C d_Nd_becomeRoot_5 rfl rfl ?_
  refine zz_iconst (v := -1) C d_Nd_becomeRoot_6 (by decide) ?_
  refine zz_putI C hR d_Nd_becomeRoot_7 zp_Nd_25 (zb_nd0 E ad hj _ _) rfl rfl (Nat.le_of_ble_eq_true rfl) (zb_nd0 E ad hj _ _) (fun h hR => ?_)
  refine zz_aload_n C d_Nd_becomeRoot_10 rfl rfl ?_
  refine zz_iconst (v := 0) C d_Nd_becomeRoot_11 (by decide) ?_
  refine zz_putI C hR d_Nd_becomeRoot_12 zp_Nd_28 (zb_nd0 E ad hj _ _) rfl rfl (Nat.le_of_ble_eq_true rfl) (zb_nd0 E ad hj _ _) (fun h hR => ?_)
  refine zz_aload_n C d_Nd_becomeRoot_15 rfl rfl ?_
  refine zz_iconst (v := 0) C d_Nd_becomeRoot_16 (by decide) ?_
  refine zz_putI C hR d_Nd_becomeRoot_17 zp_Nd_31 (zb_nd0 E ad hj _ _) rfl rfl (Nat.le_of_ble_eq_true rfl) (zb_nd0 E ad hj _ _) (fun h hR => ?_)
  refine zz_aload_n C d_Nd_becomeRoot_20 rfl rfl ?_
  refine zz_iconst (v := 0) C d_Nd_becomeRoot_21 (by decide) ?_
  refine zz_putI C hR d_Nd_becomeRoot_22 zp_Nd_34 (zb_nd0 E ad hj _ _) rfl rfl (Nat.le_of_ble_eq_true rfl) (zb_nd0 E ad hj _ _) (fun h hR => ?_)
  simp only [bx_uu, va_up_self] at hR
  refine zz_aload_n C d_Nd_becomeRoot_25 rfl rfl ?_
  refine zz_get C d_Nd_becomeRoot_26 zf_Nd_12 ((hR _).trans (zb_nd0 E ad hj _ _)) rfl ?_
  refine zz_aload_n C d_Nd_becomeRoot_29 rfl rfl ?_
  refine zz_get C d_Nd_becomeRoot_30 zf_Nd_37 ((hR _).trans rfl) rfl ?_
  refine zz_aload_n C d_Nd_becomeRoot_33 rfl rfl ?_
  refine zz_get C d_Nd_becomeRoot_34 zf_Nd_43 ((hR _).trans rfl) rfl ?_
  refine zz_callVv (e := 0) C hR d_Nd_becomeRoot_37 mk_Nd_46 zy_Bx_copyFrom (m_Bx_copyFrom (kb := 100 + 4 * j + 1) (zb_nd1 E ad hj) (zb_nd2 E ad hj) (zb_nd3 E ad hj) (ka := 2) (kc := 3) (fun _ _ => rfl) (fun _ _ => rfl) (by omega) (by omega) (by omega) (by omega) (by omega)) ⟨by decide, by decide⟩ ⟨Nat.zero_le _, Nat.zero_le _⟩ (zb_nd1 E ad hj _ _) rfl rfl rfl (Nat.le_of_ble_eq_true rfl) (fun h hR => ?_)
  refine zz_vret C Z d_Nd_becomeRoot_40 ?_
  exact ⟨rfl, rfl, hR⟩
def chF (μ : Nat → Nat → Int32) (j p : Nat) (nm sd v : Int32) : Nat → Nat → Int32 := va_up μ (100 + 4 * j) (upd (upd (upd (upd (upd (μ (100 + 4 * j)) 2 (μ (100 + 4 * p) 0)) 3 nm) 4 sd) 5 v) 6 (μ (100 + 4 * p) 6 + 1))
def bcF (μ : Nat → Nat → Int32) (j p a : Nat) (sd v : Int32) : Nat → Nat → Int32 := cutF (cpF (chF μ j p (nI a) sd v) (100 + 4 * j + 2) (100 + 4 * j + 3) (100 + 4 * p + 2) (100 + 4 * p + 3) 8) (100 + 4 * j + 2) (100 + 4 * j + 3) a sd v
set_option maxRecDepth 100000 in
set_option maxHeartbeats 4000000 in
theorem m_Nd_becomeChild {j p a : Nat} {sd v : Int32} (hj : j < al) (hp : p < al) (hne : p ≠ j) (ha : a < 8) : wMet l y_Nd_becomeChild b_Nd_becomeChild 5 none (zR 2) E [.ref (ad (100 + 4 * j)), .ref (ad (100 + 4 * p)), .int (nI a), .int sd, .int v] ad al μ pa none (bcF μ j p a sd v) pa := by
  intro h hR
  refine zMet.of (L := [some (.ref (ad (100 + 4 * j))), some (.ref (ad (100 + 4 * p))), some (.int (nI a)), some (.int sd), some (.int v)]) (by decide +kernel) (Nat.le_of_ble_eq_true rfl) rfl 0 rfl fun X hl C Z => ?_
  refine zz_aload_n C d_Nd_becomeChild_0 rfl rfl ?_
  refine zz_aload_n C d_Nd_becomeChild_1 rfl rfl ?_
  refine zz_get C d_Nd_becomeChild_2 zf_Nd_18 ((hR _).trans (zb_nd0 E ad hp _ _)) rfl ?_
  refine zz_putI C hR d_Nd_becomeChild_5 zp_Nd_22 (zb_nd0 E ad hj _ _) rfl rfl (Nat.le_of_ble_eq_true rfl) (zb_nd0 E ad hj _ _) (fun h hR => ?_)
  refine zz_aload_n C d_Nd_becomeChild_8 rfl rfl ?_
  refine zz_iload_n C d_Nd_becomeChild_9 rfl rfl ?_
  refine zz_putI C hR d_Nd_becomeChild_10 zp_Nd_25 (zb_nd0 E ad hj _ _) rfl rfl (Nat.le_of_ble_eq_true rfl) (zb_nd0 E ad hj _ _) (fun h hR => ?_)
  refine zz_aload_n C d_Nd_becomeChild_13 rfl rfl ?_
  refine zz_iload_n C d_Nd_becomeChild_14 rfl rfl ?_
  refine zz_putI C hR d_Nd_becomeChild_15 zp_Nd_28 (zb_nd0 E ad hj _ _) rfl rfl (Nat.le_of_ble_eq_true rfl) (zb_nd0 E ad hj _ _) (fun h hR => ?_)
  refine zz_aload_n C d_Nd_becomeChild_18 rfl rfl ?_
  refine zz_iload C d_Nd_becomeChild_19 rfl ?_
  refine zz_putI C hR d_Nd_becomeChild_21 zp_Nd_31 (zb_nd0 E ad hj _ _) rfl rfl (Nat.le_of_ble_eq_true rfl) (zb_nd0 E ad hj _ _) (fun h hR => ?_)
  refine zz_aload_n C d_Nd_becomeChild_24 rfl rfl ?_
  refine zz_aload_n C d_Nd_becomeChild_25 rfl rfl ?_
  refine zz_getV C hR (μ (100 + 4 * p) 6) _ d_Nd_becomeChild_26 zf_Nd_34 (zb_nd0 E ad hp _ _) rfl (by simp only [va_up_ne _ _ (show 100 + 4 * p ≠ 100 + 4 * j by omega)]) ?_
  refine zz_iconst (v := 1) C d_Nd_becomeChild_29 (by decide) ?_
  refine zz_iadd C d_Nd_becomeChild_30 ?_
  refine zz_putI C hR d_Nd_becomeChild_31 zp_Nd_34 (zb_nd0 E ad hj _ _) rfl rfl (Nat.le_of_ble_eq_true rfl) (zb_nd0 E ad hj _ _) (fun h hR => ?_)
  simp only [bx_uu, va_up_self] at hR
  refine zz_aload_n C d_Nd_becomeChild_34 rfl rfl ?_
  refine zz_get C d_Nd_becomeChild_35 zf_Nd_12 ((hR _).trans (zb_nd0 E ad hj _ _)) rfl ?_
  refine zz_aload_n C d_Nd_becomeChild_38 rfl rfl ?_
  refine zz_get C d_Nd_becomeChild_39 zf_Nd_12 ((hR _).trans (zb_nd0 E ad hp _ _)) rfl ?_
  refine zz_get C d_Nd_becomeChild_42 zf_Nd_50 ((hR _).trans (zb_nd1 E ad hp _ _)) rfl ?_
  refine zz_aload_n C d_Nd_becomeChild_45 rfl rfl ?_
  refine zz_get C d_Nd_becomeChild_46 zf_Nd_12 ((hR _).trans (zb_nd0 E ad hp _ _)) rfl ?_
  refine zz_get C d_Nd_becomeChild_49 zf_Nd_53 ((hR _).trans (zb_nd1 E ad hp _ _)) rfl ?_
  refine zz_callVv (e := 0) C hR d_Nd_becomeChild_52 mk_Nd_46 zy_Bx_copyFrom (m_Bx_copyFrom (kb := 100 + 4 * j + 1) (zb_nd1 E ad hj) (zb_nd2 E ad hj) (zb_nd3 E ad hj) (zb_nd2 E ad hp) (zb_nd3 E ad hp) (by omega) (by omega) (by omega) (by omega) (by omega)) ⟨by decide, by decide⟩ ⟨Nat.zero_le _, Nat.zero_le _⟩ (zb_nd1 E ad hj _ _) rfl rfl rfl (Nat.le_of_ble_eq_true rfl) (fun h hR => ?_)
  refine zz_aload_n C d_Nd_becomeChild_55 rfl rfl ?_
  refine zz_get C d_Nd_becomeChild_56 zf_Nd_12 ((hR _).trans (zb_nd0 E ad hj _ _)) rfl ?_
  refine zz_iload_n C d_Nd_becomeChild_59 rfl rfl ?_
  refine zz_iload_n C d_Nd_becomeChild_60 rfl rfl ?_
  refine zz_iload C d_Nd_becomeChild_61 rfl ?_
  refine zz_callVv (e := 1) C hR d_Nd_becomeChild_63 mk_Nd_56 zy_Bx_cut (m_Bx_cut (kb := 100 + 4 * j + 1) ha (zb_nd1 E ad hj) (zb_nd2 E ad hj) (zb_nd3 E ad hj)) ⟨by decide, by decide⟩ ⟨Nat.zero_le _, Nat.zero_le _⟩ (zb_nd1 E ad hj _ _) rfl rfl rfl (Nat.le_of_ble_eq_true rfl) (fun h hR => ?_)
  refine zz_vret C Z d_Nd_becomeChild_66 ?_
  exact ⟨rfl, rfl, hR⟩
def seF (μ : Nat → Nat → Int32) (j n : Nat) (c : Int32) : Nat → Nat → Int32 := va_up μ (100 + 4 * j) (upd (upd (upd (upd (μ (100 + 4 * j)) 9 c) 7 (if c = -2 then 0 else 2)) 8 (bl (μ (100 + 4 * j + 2)) (μ (100 + 4 * j + 3)) (μ 4) 1 n)) 10 (-2))
set_option maxRecDepth 100000 in
set_option maxHeartbeats 4000000 in
theorem m_Nd_settle {j n : Nat} {c : Int32} (hj : j < al) (hn : n ≤ 8) (hN : μ 1 7 = nI n) : wMet l y_Nd_settle b_Nd_settle 3 none (zR 1) E [.ref (ad (100 + 4 * j)), .int c, .ref (ad 1)] ad al μ pa none (seF μ j n c) pa := by
  intro h hR
  refine zMet.of (L := [some (.ref (ad (100 + 4 * j))), some (.int c), some (.ref (ad 1))]) (by decide +kernel) (Nat.le_of_ble_eq_true rfl) rfl 0 rfl fun X hl C Z => ?_
  refine zz_aload_n C d_Nd_settle_0 rfl rfl ?_
  refine zz_iload_n C d_Nd_settle_1 rfl rfl ?_
  refine zz_putI C hR d_Nd_settle_2 zp_Nd_60 (zb_nd0 E ad hj _ _) rfl rfl (Nat.le_of_ble_eq_true rfl) (zb_nd0 E ad hj _ _) (fun h hR => ?_)
  refine zz_aload_n C d_Nd_settle_5 rfl rfl ?_
  refine zz_iload_n C d_Nd_settle_6 rfl rfl ?_
  refine zz_bipush (v := -2) C d_Nd_settle_7 (by decide) ?_
  refine zz_icmp_ne (tgt := 16) C d_Nd_settle_9 (by decide) (fun c_9 => ?_) (fun c_9 => ?_)
  · refine zz_iconst (v := 2) C d_Nd_settle_16 (by decide) ?_
    refine zz_putI C hR d_Nd_settle_17 zp_Nd_63 (zb_nd0 E ad hj _ _) rfl rfl (Nat.le_of_ble_eq_true rfl) (zb_nd0 E ad hj _ _) (fun h hR => ?_)
    refine zz_aload_n C d_Nd_settle_20 rfl rfl ?_
    refine zz_aload_n C d_Nd_settle_21 rfl rfl ?_
    refine zz_get C d_Nd_settle_22 zf_Nd_12 ((hR _).trans (zb_nd0 E ad hj _ _)) rfl ?_
    refine zz_aload_n C d_Nd_settle_25 rfl rfl ?_
    refine zz_get C d_Nd_settle_26 zf_Nd_66 ((hR _).trans rfl) rfl ?_
    refine zz_iconst (v := 1) C d_Nd_settle_29 (by decide) ?_
    refine zz_aload_n C d_Nd_settle_30 rfl rfl ?_
    refine zz_getV C hR (nI n) _ d_Nd_settle_31 zf_Nd_69 rfl rfl (by simp only [va_up_ne _ _ (show 1 ≠ 100 + 4 * j by omega)]; exact hN) ?_
    simp only [bx_uu, va_up_self] at hR
    refine zz_callVr (e := 0) C hR d_Nd_settle_34 mk_Nd_72 zy_Bx_leastOf (m_Bx_leastOf (kb := 100 + 4 * j + 1) (kf := 4) hn (zb_nd1 E ad hj) (fun _ _ => rfl) (zb_nd2 E ad hj) (zb_nd3 E ad hj)) ⟨by decide, by decide⟩ ⟨Nat.zero_le _, Nat.zero_le _⟩ (zb_nd1 E ad hj _ _) rfl rfl rfl (Nat.le_of_ble_eq_true rfl) ?_
    simp only [bx_uu, va_up_self, va_up_ne _ _ (show 100 + 4 * j + 2 ≠ 100 + 4 * j by omega), va_up_ne _ _ (show 100 + 4 * j + 3 ≠ 100 + 4 * j by omega), va_up_ne _ _ (show 4 ≠ 100 + 4 * j by omega)]
    refine zz_putI C hR d_Nd_settle_37 zp_Nd_76 (zb_nd0 E ad hj _ _) rfl rfl (Nat.le_of_ble_eq_true rfl) (zb_nd0 E ad hj _ _) (fun h hR => ?_)
    refine zz_aload_n C d_Nd_settle_40 rfl rfl ?_
    refine zz_bipush (v := -2) C d_Nd_settle_41 (by decide) ?_
    refine zz_putI C hR d_Nd_settle_43 zp_Nd_79 (zb_nd0 E ad hj _ _) rfl rfl (Nat.le_of_ble_eq_true rfl) (zb_nd0 E ad hj _ _) (fun h hR => ?_)
    refine zz_vret C Z d_Nd_settle_46 ?_
    simp only [bx_uu, va_up_self] at hR
    exact ⟨rfl, rfl, by simpa only [seF, c_9, if_true, if_false] using hR⟩
  · refine zz_iconst (v := 0) C d_Nd_settle_12 (by decide) ?_
    refine zz_goto (tgt := 17) C d_Nd_settle_13 (by decide) ?_
    refine zz_putI C hR d_Nd_settle_17 zp_Nd_63 (zb_nd0 E ad hj _ _) rfl rfl (Nat.le_of_ble_eq_true rfl) (zb_nd0 E ad hj _ _) (fun h hR => ?_)
    refine zz_aload_n C d_Nd_settle_20 rfl rfl ?_
    refine zz_aload_n C d_Nd_settle_21 rfl rfl ?_
    refine zz_get C d_Nd_settle_22 zf_Nd_12 ((hR _).trans (zb_nd0 E ad hj _ _)) rfl ?_
    refine zz_aload_n C d_Nd_settle_25 rfl rfl ?_
    refine zz_get C d_Nd_settle_26 zf_Nd_66 ((hR _).trans rfl) rfl ?_
    refine zz_iconst (v := 1) C d_Nd_settle_29 (by decide) ?_
    refine zz_aload_n C d_Nd_settle_30 rfl rfl ?_
    refine zz_getV C hR (nI n) _ d_Nd_settle_31 zf_Nd_69 rfl rfl (by simp only [va_up_ne _ _ (show 1 ≠ 100 + 4 * j by omega)]; exact hN) ?_
    simp only [bx_uu, va_up_self] at hR
    refine zz_callVr (e := 0) C hR d_Nd_settle_34 mk_Nd_72 zy_Bx_leastOf (m_Bx_leastOf (kb := 100 + 4 * j + 1) (kf := 4) hn (zb_nd1 E ad hj) (fun _ _ => rfl) (zb_nd2 E ad hj) (zb_nd3 E ad hj)) ⟨by decide, by decide⟩ ⟨Nat.zero_le _, Nat.zero_le _⟩ (zb_nd1 E ad hj _ _) rfl rfl rfl (Nat.le_of_ble_eq_true rfl) ?_
    simp only [bx_uu, va_up_self, va_up_ne _ _ (show 100 + 4 * j + 2 ≠ 100 + 4 * j by omega), va_up_ne _ _ (show 100 + 4 * j + 3 ≠ 100 + 4 * j by omega), va_up_ne _ _ (show 4 ≠ 100 + 4 * j by omega)]
    refine zz_putI C hR d_Nd_settle_37 zp_Nd_76 (zb_nd0 E ad hj _ _) rfl rfl (Nat.le_of_ble_eq_true rfl) (zb_nd0 E ad hj _ _) (fun h hR => ?_)
    refine zz_aload_n C d_Nd_settle_40 rfl rfl ?_
    refine zz_bipush (v := -2) C d_Nd_settle_41 (by decide) ?_
    refine zz_putI C hR d_Nd_settle_43 zp_Nd_79 (zb_nd0 E ad hj _ _) rfl rfl (Nat.le_of_ble_eq_true rfl) (zb_nd0 E ad hj _ _) (fun h hR => ?_)
    refine zz_vret C Z d_Nd_settle_46 ?_
    simp only [bx_uu, va_up_self] at hR
    exact ⟨rfl, rfl, by simpa only [seF, c_9, if_true, if_false] using hR⟩
end WRITE
