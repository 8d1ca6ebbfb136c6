/-! BOX -/
/-- the least sum of sg times factors, times l or u -/
def bl (lo hi f : Nat → Int32) (sg : Int32) : Nat → Int32
  | 0 => 0
  | n + 1 => bl lo hi f sg n + (sg * f n) * (if sg * f n ≤ 0 then hi n else lo n)
section BOX
variable {X : zX} {E : zE} {rm : Room} {ad : Nat → Nat} {h : zH} {post : Option Value → (Nat → Nat) → zH → Prop}
set_option maxRecDepth 100000 in
theorem lp_Bx_leastOf (C : zc X E b_Bx_leastOf 7 "BranchTrees$Box" rm) (Z : zr X E (some .int) 0 0 post) {kb kf kl kh n : Nat} {lo hi f : Nat → Int32} {sg : Int32} (hn : n ≤ 8)
    (Hb : zg h kb = some (.inr (2, [.ref (ad kl), .ref (ad kh)]))) (Hl : zg h kl = some (.inl (E.2 0, 8, .inl lo))) (Hh : zg h kh = some (.inl (E.2 0, 8, .inl hi))) (Hf : zg h kf = some (.inl (E.2 0, 8, .inl f))) (hpost : post (some (.int (bl lo hi f sg n))) ad h) :
    ∀ (k i : Nat) (w : Option Value), n - i = k → i ≤ n → zz X E 7 ad 0 0 6 [some (.ref (ad kb)), some (.ref (ad kf)), some (.int sg), some (.int (nI n)), some (.int (bl lo hi f sg i)), some (.int (nI i)), w] [] h := by
  intro k
  induction k with
  | zero =>
    intro i w hk hin
    have e : i = n := by omega
    subst e
    refine zz_iload C d_Bx_leastOf_6 rfl ?_
    refine zz_iload_n C d_Bx_leastOf_8 rfl rfl ?_
    refine zz_icmp_ge (tgt := 56) C d_Bx_leastOf_9 (by decide) (fun c_9 => ?_) (fun c_9 => ?_)
    · refine zz_iload C d_Bx_leastOf_56 rfl ?_
      refine zz_iret C Z d_Bx_leastOf_58 ?_
      exact hpost
    · exact absurd (nI_le (Nat.le_refl _) (by omega)) c_9
  | succ k ih =>
    intro i w hk hin
    have hlt : i < n := by omega
    refine zz_iload C d_Bx_leastOf_6 rfl ?_
    refine zz_iload_n C d_Bx_leastOf_8 rfl rfl ?_
    refine zz_icmp_ge (tgt := 56) C d_Bx_leastOf_9 (by decide) (fun c_9 => ?_) (fun c_9 => ?_)
    · exact absurd c_9 (nI_ge hlt (by omega))
    · refine zz_iload_n C d_Bx_leastOf_12 rfl rfl ?_
      refine zz_aload_n C d_Bx_leastOf_13 rfl rfl ?_
      refine zz_iload C d_Bx_leastOf_14 rfl ?_
      refine zz_iald (j := i) C 0 d_Bx_leastOf_16 (by assumption) rfl rfl (by omega) (by decide) ?_
      refine zz_imul C d_Bx_leastOf_17 ?_
      refine zz_istore C d_Bx_leastOf_18 (by decide) rfl ?_
      refine zz_iload C d_Bx_leastOf_20 rfl ?_
      refine zz_iload C d_Bx_leastOf_22 rfl ?_
      refine zz_iload C d_Bx_leastOf_24 rfl ?_
      refine zz_if_le (tgt := 39) C d_Bx_leastOf_26 (by decide) (fun c_26 => ?_) (fun c_26 => ?_)
      · refine zz_aload_n C d_Bx_leastOf_39 rfl rfl ?_
        refine zz_get C d_Bx_leastOf_40 zf_Bx_15 (by assumption) rfl ?_
        refine zz_iload C d_Bx_leastOf_43 rfl ?_
        refine zz_iald (j := i) C 0 d_Bx_leastOf_45 (by assumption) rfl rfl (by omega) (by decide) ?_
        refine zz_imul C d_Bx_leastOf_46 ?_
        refine zz_iadd C d_Bx_leastOf_47 ?_
        refine zz_istore C d_Bx_leastOf_48 (by decide) rfl ?_
        refine zz_iinc C d_Bx_leastOf_50 rfl (nI_inc _) (by decide) rfl ?_
        refine zz_goto (tgt := 6) C d_Bx_leastOf_53 (by decide) ?_
        have K := ih (i + 1) (some (.int (sg * f i))) (by omega) hlt
        simp only [bl, c_26, if_true, if_false] at K
        exact K
      · refine zz_aload_n C d_Bx_leastOf_29 rfl rfl ?_
        refine zz_get C d_Bx_leastOf_30 zf_Bx_9 (by assumption) rfl ?_
        refine zz_iload C d_Bx_leastOf_33 rfl ?_
        refine zz_iald (j := i) C 0 d_Bx_leastOf_35 (by assumption) rfl rfl (by omega) (by decide) ?_
        refine zz_goto (tgt := 46) C d_Bx_leastOf_36 (by decide) ?_
        refine zz_imul C d_Bx_leastOf_46 ?_
        refine zz_iadd C d_Bx_leastOf_47 ?_
        refine zz_istore C d_Bx_leastOf_48 (by decide) rfl ?_
        refine zz_iinc C d_Bx_leastOf_50 rfl (nI_inc _) (by decide) rfl ?_
        refine zz_goto (tgt := 6) C d_Bx_leastOf_53 (by decide) ?_
        have K := ih (i + 1) (some (.int (sg * f i))) (by omega) hlt
        simp only [bl, c_26, if_true, if_false] at K
        exact K
set_option maxRecDepth 100000 in
theorem m_Bx_leastOf {l : Launch} {kb kf kl kh n : Nat} {lo hi f : Nat → Int32} {sg : Int32} (hn : n ≤ 8)
    (Hb : zg h kb = some (.inr (2, [.ref (ad kl), .ref (ad kh)]))) (Hl : zg h kl = some (.inl (E.2 0, 8, .inl lo))) (Hh : zg h kh = some (.inl (E.2 0, 8, .inl hi))) (Hf : zg h kf = some (.inl (E.2 0, 8, .inl f))) :
    zMet l y_Bx_leastOf b_Bx_leastOf 7 (some .int) (zR 0) E [.ref (ad kb), .ref (ad kf), .int sg, .int (nI n)] ad h (fun r ad' h' => r = some (.int (bl lo hi f sg n)) ∧ ad' = ad ∧ h' = h) := by
  refine zMet.of (L := [some (.ref (ad kb)), some (.ref (ad kf)), some (.int sg), some (.int (nI n)), none, none, none]) (by decide) (Nat.le_of_ble_eq_true rfl) rfl 3 rfl fun X hl C Z => ?_
  refine zz_iconst (v := 0) C d_Bx_leastOf_0 (by decide) ?_
  refine zz_istore C d_Bx_leastOf_1 (by decide) rfl ?_
  refine zz_iconst (v := 0) C d_Bx_leastOf_3 (by decide) ?_
  refine zz_istore C d_Bx_leastOf_4 (by decide) rfl ?_
  exact lp_Bx_leastOf C Z hn Hb Hl Hh Hf ⟨rfl, rfl, rfl⟩ n 0 _ rfl (Nat.zero_le n)
end BOX
