/-! NARROWER: bounds as (l, u, changed) -/
abbrev zB : Type := (Nat → Int32) × (Nat → Int32) × Int32
/-- one NAME of one row at most, with its slack -/
def clS (f : Nat → Int32) (sg sl : Int32) (j : Nat) (s : zB) : zB :=
  if sg * f j ≤ 0 then (if 0 ≤ sg * f j then s else if s.2.1 j + sl / (sg * f j) ≤ s.1 j then s else (upd s.1 j (s.2.1 j + sl / (sg * f j)), s.2.1, 1))
  else (if s.2.1 j ≤ s.1 j + sl / (sg * f j) then s else (s.1, upd s.2.1 j (s.1 j + sl / (sg * f j)), 1))
def clN (f : Nat → Int32) (sg sl : Int32) : Nat → zB → zB
  | 0, s => s
  | n + 1, s => clS f sg sl n (clN f sg sl n s)
def closesF (f : Nat → Int32) (sg right : Int32) (n : Nat) (s : zB) : Int32 × zB :=
  if 0 ≤ right - bl s.1 s.2.1 f sg n then (0, clN f sg (right - bl s.1 s.2.1 f sg n) n s) else (1, s)
/-- the rows hold the bounds s of a box (kl, kh), all else as μ -/
def clB (μ : Nat → Nat → Int32) (kl kh : Nat) (m : Nat → Nat → Int32) (s : zB) : Prop := m kl = s.1 ∧ m kh = s.2.1 ∧ m 16 = upd (μ 16) 2 s.2.2 ∧ ∀ k, k ≠ kl → k ≠ kh → k ≠ 16 → m k = μ k
def setB (μ : Nat → Nat → Int32) (kl kh : Nat) (s : zB) : Nat → Nat → Int32 := va_up (va_up (va_up μ kl s.1) kh s.2.1) 16 (upd (μ 16) 2 s.2.2)
theorem clB.eq {μ m : Nat → Nat → Int32} {kl kh : Nat} {s : zB} (h : clB μ kl kh m s) (n2 : kl ≠ 16) (n3 : kh ≠ 16) : m = setB μ kl kh s := by
  obtain ⟨h1, h2, h3, h4⟩ := h
  funext k
  unfold setB
  by_cases e1 : k = 16
  · subst e1; rw [va_up_self, h3]
  · rw [va_up_ne _ _ e1]
    by_cases e2 : k = kh
    · subst e2; rw [va_up_self, h2]
    · rw [va_up_ne _ _ e2]
      by_cases e3 : k = kl
      · subst e3; rw [va_up_self, h1]
      · rw [va_up_ne _ _ e3]; exact h4 k e3 e2 e1
theorem clB.of {μ : Nat → Nat → Int32} {kl kh : Nat} {s : zB} (n1 : kl ≠ kh) (n2 : kl ≠ 16) (n3 : kh ≠ 16) : clB μ kl kh (setB μ kl kh s) s := by
  unfold setB
  refine ⟨?_, ?_, va_up_self _ _ _, fun k a b c => ?_⟩
  · rw [va_up_ne _ _ n2, va_up_ne _ _ n1, va_up_self]
  · rw [va_up_ne _ _ n3, va_up_self]
  · rw [va_up_ne _ _ c, va_up_ne _ _ b, va_up_ne _ _ a]
theorem upd_id (f : Nat → Int32) (j : Nat) : upd f j (f j) = f := by
  funext q
  by_cases e : q = j
  · subst e; rw [pk_us]
  · rw [pk_un e]
theorem upd_uu (f : Nat → Int32) (j : Nat) (x y : Int32) : upd (upd f j x) j y = upd f j y := by
  funext q
  by_cases e : q = j
  · subst e; rw [pk_us, pk_us]
  · rw [pk_un e, pk_un e, pk_un e]
theorem clB.rf {μ : Nat → Nat → Int32} {kl kh : Nat} : clB μ kl kh μ (μ kl, μ kh, μ 16 2) := ⟨rfl, rfl, (upd_id _ _).symm, fun _ _ _ _ => rfl⟩
theorem clB.hi {μ m : Nat → Nat → Int32} {kl kh i : Nat} {s : zB} {v : Int32} (h : clB μ kl kh m s) (n1 : kl ≠ kh) (n2 : kl ≠ 16) (n3 : kh ≠ 16) : clB μ kl kh (va_up (va_up m kh (upd (m kh) i v)) 16 (upd (va_up m kh (upd (m kh) i v) 16) 2 1)) (s.1, upd s.2.1 i v, 1) := by
  obtain ⟨h1, h2, h3, h4⟩ := h
  refine ⟨?_, ?_, ?_, fun k a b c => ?_⟩
  · rw [va_up_ne _ _ n2, va_up_ne _ _ n1]; exact h1
  · rw [va_up_ne _ _ n3, va_up_self, h2]
  · rw [va_up_self, va_up_ne _ _ (Ne.symm n3), h3, upd_uu]
  · rw [va_up_ne _ _ c, va_up_ne _ _ b]; exact h4 k a b c
theorem clB.lo {μ m : Nat → Nat → Int32} {kl kh i : Nat} {s : zB} {v : Int32} (h : clB μ kl kh m s) (n1 : kl ≠ kh) (n2 : kl ≠ 16) (n3 : kh ≠ 16) : clB μ kl kh (va_up (va_up m kl (upd (m kl) i v)) 16 (upd (va_up m kl (upd (m kl) i v) 16) 2 1)) (upd s.1 i v, s.2.1, 1) := by
  obtain ⟨h1, h2, h3, h4⟩ := h
  refine ⟨?_, ?_, ?_, fun k a b c => ?_⟩
  · rw [va_up_ne _ _ n2, va_up_self, h1]
  · rw [va_up_ne _ _ n3, va_up_ne _ _ (Ne.symm n1)]; exact h2
  · rw [va_up_self, va_up_ne _ _ (Ne.symm n2), h3, upd_uu]
  · rw [va_up_ne _ _ c, va_up_ne _ _ a]; exact h4 k a b c
theorem ne0_of_nle {x : Int32} (h : ¬ x ≤ 0) : ¬ x = 0 := fun e => h (by rw [e]; decide)
theorem ne0_of_nge {x : Int32} (h : ¬ 0 ≤ x) : ¬ x = 0 := fun e => h (by rw [e]; decide)
theorem nge_of_nle {x : Int32} (h : ¬ x ≤ 0) : 0 ≤ x := by
  rw [Int32.le_iff_toInt_le] at h ⊢
  have : (0 : Int32).toInt = 0 := by decide
  omega
section NARROW
variable {l : Launch} {E : zE} {ad : Nat → Nat} {al : Nat} {μ : Nat → Nat → Int32} {pa : Nat → Nat → Int64}
set_option maxRecDepth 100000 in
set_option maxHeartbeats 4000000 in
theorem lp_Nr_closes {X : zX} {post : Option Value → (Nat → Nat) → zH → Prop} (C : zc X E b_Nr_closes 8 "BranchTrees$Narrower" (zR 1)) (Z : zr X E (some .boolean) 0 0 post) {kb kf kl kh n : Nat} {sg right : Int32} (hn : n ≤ 8) (hN : μ 1 7 = nI n) (hB : isB E ad al kb kl kh) (hL : isA E ad al kl 8) (hH : isA E ad al kh 8) (n1 : kl ≠ kh) (n2 : kl ≠ 16) (n3 : kh ≠ 16) (n4 : kl ≠ 1) (n5 : kh ≠ 1) (hA : isA E ad al kf 8) (f1 : kf ≠ kl) (f2 : kf ≠ kh) (f3 : kf ≠ 16) {sl : Int32} {s0 : zB} (hpost : ∀ (m : Nat → Nat → Int32) (h : zH), clB μ kl kh m (clN (μ kf) sg sl n s0) → zRep E ad al m pa h → post (some (.int 0)) ad h) :
    ∀ (k i : Nat) (s : zB) (m : Nat → Nat → Int32) (w : Option Value), n - i = k → i ≤ n → s = clN (μ kf) sg sl i s0 → clB μ kl kh m s → ∀ h, zRep E ad al m pa h → zz X E 8 ad 0 0 28 [some (.ref (ad 16)), some (.ref (ad kb)), some (.ref (ad kf)), some (.int sg), some (.int right), some (.int sl), some (.int (nI i)), w] [] h := by
  intro k
  induction k with
  | zero =>
    intro i s m w hk hin hs hb h hR
    have hmN : m 1 7 = nI n := by rw [hb.2.2.2 1 (Ne.symm n4) (Ne.symm n5) (by decide)]; exact hN
    have e : i = n := by omega
    subst e
    refine zz_iload C d_Nr_closes_28 rfl ?_
    refine zz_aload_n C d_Nr_closes_30 rfl rfl ?_
    refine zz_get C d_Nr_closes_31 zf_Nr_9 ((hR _).trans rfl) rfl ?_
    refine zz_getV C hR (nI i) _ d_Nr_closes_34 zf_Nr_60 rfl rfl hmN ?_
    refine zz_icmp_ge (tgt := 163) C d_Nr_closes_37 (by decide) (fun c_37 => ?_) (fun c_37 => ?_)
    · refine zz_iconst (v := 0) C d_Nr_closes_163 (by decide) ?_
      refine zz_zret C Z d_Nr_closes_164 (by first | rfl | decide | assumption) ?_
      exact hpost m h (hs ▸ hb) hR
    · exact absurd (nI_le (Nat.le_refl _) (by omega)) c_37
  | succ k ih =>
    intro i s m w hk hin hs hb h hR
    have hlt : i < n := by omega
    have hmN : m 1 7 = nI n := by rw [hb.2.2.2 1 (Ne.symm n4) (Ne.symm n5) (by decide)]; exact hN
    have hml : m kl = s.1 := hb.1
    have hmh : m kh = s.2.1 := hb.2.1
    have hmf : m kf = μ kf := hb.2.2.2 kf f1 f2 f3
    refine zz_iload C d_Nr_closes_28 rfl ?_
    refine zz_aload_n C d_Nr_closes_30 rfl rfl ?_
    refine zz_get C d_Nr_closes_31 zf_Nr_9 ((hR _).trans rfl) rfl ?_
    refine zz_getV C hR (nI n) _ d_Nr_closes_34 zf_Nr_60 rfl rfl hmN ?_
    refine zz_icmp_ge (tgt := 163) C d_Nr_closes_37 (by decide) (fun c_37 => ?_) (fun c_37 => ?_)
    · exact absurd c_37 (nI_ge hlt (by omega))
    · refine zz_iload_n C d_Nr_closes_40 rfl rfl ?_
      refine zz_aload_n C d_Nr_closes_41 rfl rfl ?_
      refine zz_iload C d_Nr_closes_42 rfl ?_
      refine zz_ialdV (j := i) C hR (μ kf i) d_Nr_closes_44 hA rfl (by omega) (by decide) (by rw [hmf]) ?_
      refine zz_imul C d_Nr_closes_45 ?_
      refine zz_istore C d_Nr_closes_46 (by decide) rfl ?_
      refine zz_iload C d_Nr_closes_48 rfl ?_
      refine zz_if_le (tgt := 104) C d_Nr_closes_50 (by decide) (fun c_50 => ?_) (fun c_50 => ?_)
      · refine zz_iload C d_Nr_closes_104 rfl ?_
        refine zz_if_ge (tgt := 157) C d_Nr_closes_106 (by decide) (fun c_106 => ?_) (fun c_106 => ?_)
        · refine zz_iinc C d_Nr_closes_157 rfl (nI_inc _) (by decide) rfl ?_
          refine zz_goto (tgt := 28) C d_Nr_closes_160 (by decide) ?_
          first
          | exact absurd (nge_of_nle c_50) c_106
          | refine ih (i + 1) (clS (μ kf) sg sl i s) _ _ (by omega) hlt (by rw [hs]; rfl) ?_ h hR
            simp only [clS, c_37, c_50, c_106, if_true, if_false]
            first | exact hb | exact hb.hi n1 n2 n3 | exact hb.lo n1 n2 n3
        · refine zz_aload_n C d_Nr_closes_109 rfl rfl ?_
          refine zz_get C d_Nr_closes_110 zf_Nr_72 ((hR _).trans (hB _ _)) rfl ?_
          refine zz_iload C d_Nr_closes_113 rfl ?_
          refine zz_ialdV (j := i) C hR (s.1 i) d_Nr_closes_115 hL rfl (by omega) (by decide) (by rw [hml]) ?_
          refine zz_aload_n C d_Nr_closes_116 rfl rfl ?_
          refine zz_get C d_Nr_closes_117 zf_Nr_69 ((hR _).trans (hB _ _)) rfl ?_
          refine zz_iload C d_Nr_closes_120 rfl ?_
          refine zz_ialdV (j := i) C hR (s.2.1 i) d_Nr_closes_122 hH rfl (by omega) (by decide) (by rw [hmh]) ?_
          refine zz_iload C d_Nr_closes_123 rfl ?_
          refine zz_iload C d_Nr_closes_125 rfl ?_
          refine zz_idiv C d_Nr_closes_127 (ne0_of_nge c_106) ?_
          refine zz_iadd C d_Nr_closes_128 ?_
          refine zz_icmp_ge (tgt := 157) C d_Nr_closes_129 (by decide) (fun c_129 => ?_) (fun c_129 => ?_)
          · refine zz_iinc C d_Nr_closes_157 rfl (nI_inc _) (by decide) rfl ?_
            refine zz_goto (tgt := 28) C d_Nr_closes_160 (by decide) ?_
            first
            | exact absurd (nge_of_nle c_50) c_106
            | refine ih (i + 1) (clS (μ kf) sg sl i s) _ _ (by omega) hlt (by rw [hs]; rfl) ?_ h hR
              simp only [clS, c_37, c_50, c_106, c_129, if_true, if_false]
              first | exact hb | exact hb.hi n1 n2 n3 | exact hb.lo n1 n2 n3
          · refine zz_aload_n C d_Nr_closes_132 rfl rfl ?_
            refine zz_get C d_Nr_closes_133 zf_Nr_72 ((hR _).trans (hB _ _)) rfl ?_
            refine zz_iload C d_Nr_closes_136 rfl ?_
            refine zz_aload_n C d_Nr_closes_138 rfl rfl ?_
            refine zz_get C d_Nr_closes_139 zf_Nr_69 ((hR _).trans (hB _ _)) rfl ?_
            refine zz_iload C d_Nr_closes_142 rfl ?_
            refine zz_ialdV (j := i) C hR (s.2.1 i) d_Nr_closes_144 hH rfl (by omega) (by decide) (by rw [hmh]) ?_
            refine zz_iload C d_Nr_closes_145 rfl ?_
            refine zz_iload C d_Nr_closes_147 rfl ?_
            refine zz_idiv C d_Nr_closes_149 (ne0_of_nge c_106) ?_
            refine zz_iadd C d_Nr_closes_150 ?_
            refine zz_iastR (j := i) C hR d_Nr_closes_151 hL rfl (by omega) (by decide) (fun h hR => ?_)
            refine zz_aload_n C d_Nr_closes_152 rfl rfl ?_
            refine zz_iconst (v := 1) C d_Nr_closes_153 (by decide) ?_
            refine zz_putI C hR d_Nr_closes_154 zp_Nr_19 rfl rfl rfl (Nat.le_of_ble_eq_true rfl) rfl (fun h hR => ?_)
            refine zz_iinc C d_Nr_closes_157 rfl (nI_inc _) (by decide) rfl ?_
            refine zz_goto (tgt := 28) C d_Nr_closes_160 (by decide) ?_
            first
            | exact absurd (nge_of_nle c_50) c_106
            | refine ih (i + 1) (clS (μ kf) sg sl i s) _ _ (by omega) hlt (by rw [hs]; rfl) ?_ h hR
              simp only [clS, c_37, c_50, c_106, c_129, if_true, if_false]
              first | exact hb | exact hb.hi n1 n2 n3 | exact hb.lo n1 n2 n3
      · refine zz_aload_n C d_Nr_closes_53 rfl rfl ?_
        refine zz_get C d_Nr_closes_54 zf_Nr_69 ((hR _).trans (hB _ _)) rfl ?_
        refine zz_iload C d_Nr_closes_57 rfl ?_
        refine zz_ialdV (j := i) C hR (s.2.1 i) d_Nr_closes_59 hH rfl (by omega) (by decide) (by rw [hmh]) ?_
        refine zz_aload_n C d_Nr_closes_60 rfl rfl ?_
        refine zz_get C d_Nr_closes_61 zf_Nr_72 ((hR _).trans (hB _ _)) rfl ?_
        refine zz_iload C d_Nr_closes_64 rfl ?_
        refine zz_ialdV (j := i) C hR (s.1 i) d_Nr_closes_66 hL rfl (by omega) (by decide) (by rw [hml]) ?_
        refine zz_iload C d_Nr_closes_67 rfl ?_
        refine zz_iload C d_Nr_closes_69 rfl ?_
        refine zz_idiv C d_Nr_closes_71 (ne0_of_nle c_50) ?_
        refine zz_iadd C d_Nr_closes_72 ?_
        refine zz_icmp_le (tgt := 104) C d_Nr_closes_73 (by decide) (fun c_73 => ?_) (fun c_73 => ?_)
        · refine zz_iload C d_Nr_closes_104 rfl ?_
          refine zz_if_ge (tgt := 157) C d_Nr_closes_106 (by decide) (fun c_106 => ?_) (fun c_106 => ?_)
          · refine zz_iinc C d_Nr_closes_157 rfl (nI_inc _) (by decide) rfl ?_
            refine zz_goto (tgt := 28) C d_Nr_closes_160 (by decide) ?_
            first
            | exact absurd (nge_of_nle c_50) c_106
            | refine ih (i + 1) (clS (μ kf) sg sl i s) _ _ (by omega) hlt (by rw [hs]; rfl) ?_ h hR
              simp only [clS, c_37, c_50, c_73, c_106, if_true, if_false]
              first | exact hb | exact hb.hi n1 n2 n3 | exact hb.lo n1 n2 n3
          · refine zz_aload_n C d_Nr_closes_109 rfl rfl ?_
            refine zz_get C d_Nr_closes_110 zf_Nr_72 ((hR _).trans (hB _ _)) rfl ?_
            refine zz_iload C d_Nr_closes_113 rfl ?_
            refine zz_ialdV (j := i) C hR (s.1 i) d_Nr_closes_115 hL rfl (by omega) (by decide) (by rw [hml]) ?_
            refine zz_aload_n C d_Nr_closes_116 rfl rfl ?_
            refine zz_get C d_Nr_closes_117 zf_Nr_69 ((hR _).trans (hB _ _)) rfl ?_
            refine zz_iload C d_Nr_closes_120 rfl ?_
            refine zz_ialdV (j := i) C hR (s.2.1 i) d_Nr_closes_122 hH rfl (by omega) (by decide) (by rw [hmh]) ?_
            refine zz_iload C d_Nr_closes_123 rfl ?_
            refine zz_iload C d_Nr_closes_125 rfl ?_
            refine zz_idiv C d_Nr_closes_127 (ne0_of_nge c_106) ?_
            refine zz_iadd C d_Nr_closes_128 ?_
            refine zz_icmp_ge (tgt := 157) C d_Nr_closes_129 (by decide) (fun c_129 => ?_) (fun c_129 => ?_)
            · refine zz_iinc C d_Nr_closes_157 rfl (nI_inc _) (by decide) rfl ?_
              refine zz_goto (tgt := 28) C d_Nr_closes_160 (by decide) ?_
              first
              | exact absurd (nge_of_nle c_50) c_106
              | refine ih (i + 1) (clS (μ kf) sg sl i s) _ _ (by omega) hlt (by rw [hs]; rfl) ?_ h hR
                simp only [clS, c_37, c_50, c_73, c_106, c_129, if_true, if_false]
                first | exact hb | exact hb.hi n1 n2 n3 | exact hb.lo n1 n2 n3
            · refine zz_aload_n C d_Nr_closes_132 rfl rfl ?_
              refine zz_get C d_Nr_closes_133 zf_Nr_72 ((hR _).trans (hB _ _)) rfl ?_
              refine zz_iload C d_Nr_closes_136 rfl ?_
              refine zz_aload_n C d_Nr_closes_138 rfl rfl ?_
              refine zz_get C d_Nr_closes_139 zf_Nr_69 ((hR _).trans (hB _ _)) rfl ?_
              refine zz_iload C d_Nr_closes_142 rfl ?_
              refine zz_ialdV (j := i) C hR (s.2.1 i) d_Nr_closes_144 hH rfl (by omega) (by decide) (by rw [hmh]) ?_
              refine zz_iload C d_Nr_closes_145 rfl ?_
              refine zz_iload C d_Nr_closes_147 rfl ?_
              refine zz_idiv C d_Nr_closes_149 (ne0_of_nge c_106) ?_
              refine zz_iadd C d_Nr_closes_150 ?_
              refine zz_iastR (j := i) C hR d_Nr_closes_151 hL rfl (by omega) (by decide) (fun h hR => ?_)
              refine zz_aload_n C d_Nr_closes_152 rfl rfl ?_
              refine zz_iconst (v := 1) C d_Nr_closes_153 (by decide) ?_
              refine zz_putI C hR d_Nr_closes_154 zp_Nr_19 rfl rfl rfl (Nat.le_of_ble_eq_true rfl) rfl (fun h hR => ?_)
              refine zz_iinc C d_Nr_closes_157 rfl (nI_inc _) (by decide) rfl ?_
              refine zz_goto (tgt := 28) C d_Nr_closes_160 (by decide) ?_
              first
              | exact absurd (nge_of_nle c_50) c_106
              | refine ih (i + 1) (clS (μ kf) sg sl i s) _ _ (by omega) hlt (by rw [hs]; rfl) ?_ h hR
                simp only [clS, c_37, c_50, c_73, c_106, c_129, if_true, if_false]
                first | exact hb | exact hb.hi n1 n2 n3 | exact hb.lo n1 n2 n3
        · refine zz_aload_n C d_Nr_closes_76 rfl rfl ?_
          refine zz_get C d_Nr_closes_77 zf_Nr_69 ((hR _).trans (hB _ _)) rfl ?_
          refine zz_iload C d_Nr_closes_80 rfl ?_
          refine zz_aload_n C d_Nr_closes_82 rfl rfl ?_
          refine zz_get C d_Nr_closes_83 zf_Nr_72 ((hR _).trans (hB _ _)) rfl ?_
          refine zz_iload C d_Nr_closes_86 rfl ?_
          refine zz_ialdV (j := i) C hR (s.1 i) d_Nr_closes_88 hL rfl (by omega) (by decide) (by rw [hml]) ?_
          refine zz_iload C d_Nr_closes_89 rfl ?_
          refine zz_iload C d_Nr_closes_91 rfl ?_
          refine zz_idiv C d_Nr_closes_93 (ne0_of_nle c_50) ?_
          refine zz_iadd C d_Nr_closes_94 ?_
          refine zz_iastR (j := i) C hR d_Nr_closes_95 hH rfl (by omega) (by decide) (fun h hR => ?_)
          refine zz_aload_n C d_Nr_closes_96 rfl rfl ?_
          refine zz_iconst (v := 1) C d_Nr_closes_97 (by decide) ?_
          refine zz_putI C hR d_Nr_closes_98 zp_Nr_19 rfl rfl rfl (Nat.le_of_ble_eq_true rfl) rfl (fun h hR => ?_)
          refine zz_goto (tgt := 157) C d_Nr_closes_101 (by decide) ?_
          refine zz_iinc C d_Nr_closes_157 rfl (nI_inc _) (by decide) rfl ?_
          refine zz_goto (tgt := 28) C d_Nr_closes_160 (by decide) ?_
          first
          | exact absurd (nge_of_nle c_50) c_106
          | refine ih (i + 1) (clS (μ kf) sg sl i s) _ _ (by omega) hlt (by rw [hs]; rfl) ?_ h hR
            simp only [clS, c_37, c_50, c_73, if_true, if_false]
            first | exact hb | exact hb.hi n1 n2 n3 | exact hb.lo n1 n2 n3
set_option maxRecDepth 100000 in
set_option maxHeartbeats 4000000 in
theorem m_Nr_closes {kb kf kl kh n : Nat} {sg right : Int32} (hn : n ≤ 8) (hN : μ 1 7 = nI n) (hB : isB E ad al kb kl kh) (hL : isA E ad al kl 8) (hH : isA E ad al kh 8) (n1 : kl ≠ kh) (n2 : kl ≠ 16) (n3 : kh ≠ 16) (n4 : kl ≠ 1) (n5 : kh ≠ 1) (hA : isA E ad al kf 8) (f1 : kf ≠ kl) (f2 : kf ≠ kh) (f3 : kf ≠ 16) : wMet l y_Nr_closes b_Nr_closes 8 (some .boolean) (zR 1) E [.ref (ad 16), .ref (ad kb), .ref (ad kf), .int sg, .int right] ad al μ pa (some (.int (closesF (μ kf) sg right n (μ kl, μ kh, μ 16 2)).1)) (setB μ kl kh (closesF (μ kf) sg right n (μ kl, μ kh, μ 16 2)).2) pa := by
  intro h hR
  refine zMet.of (L := [some (.ref (ad 16)), some (.ref (ad kb)), some (.ref (ad kf)), some (.int sg), some (.int right), none, none, none]) (by decide +kernel) (Nat.le_of_ble_eq_true rfl) rfl 3 rfl fun X hl C Z => ?_
  refine zz_iload C d_Nr_closes_0 rfl ?_
  refine zz_aload_n C d_Nr_closes_2 rfl rfl ?_
  refine zz_aload_n C d_Nr_closes_3 rfl rfl ?_
  refine zz_iload_n C d_Nr_closes_4 rfl rfl ?_
  refine zz_aload_n C d_Nr_closes_5 rfl rfl ?_
  refine zz_get C d_Nr_closes_6 zf_Nr_9 ((hR _).trans rfl) rfl ?_
  refine zz_getV C hR (nI n) _ d_Nr_closes_9 zf_Nr_60 rfl rfl hN ?_
  refine zz_callVr (e := 0) C hR d_Nr_closes_12 mk_Nr_63 zy_Bx_leastOf (m_Bx_leastOf hn hB hA hL hH) ⟨by decide, by decide⟩ ⟨Nat.zero_le _, Nat.zero_le _⟩ (hB _ _) rfl rfl rfl (Nat.le_of_ble_eq_true rfl) ?_
  refine zz_isub C d_Nr_closes_15 ?_
  refine zz_istore C d_Nr_closes_16 (by decide) rfl ?_
  refine zz_iload C d_Nr_closes_18 rfl ?_
  refine zz_if_ge (tgt := 25) C d_Nr_closes_20 (by decide) (fun c_20 => ?_) (fun c_20 => ?_)
  · refine zz_iconst (v := 0) C d_Nr_closes_25 (by decide) ?_
    refine zz_istore C d_Nr_closes_26 (by decide) rfl ?_
    exact lp_Nr_closes C Z hn hN hB hL hH n1 n2 n3 n4 n5 hA f1 f2 f3 (s0 := (μ kl, μ kh, μ 16 2)) (fun m h hb hR => ⟨by simp only [closesF, c_20, if_true], rfl, hR.eq (by simp only [closesF, c_20, if_true]; exact hb.eq n2 n3) rfl⟩) n 0 _ μ _ rfl (Nat.zero_le n) rfl clB.rf h hR
  · refine zz_iconst (v := 1) C d_Nr_closes_23 (by decide) ?_
    refine zz_zret C Z d_Nr_closes_24 (by first | rfl | decide | assumption) ?_
    exact ⟨by simp only [closesF, c_20, if_false], rfl, hR.eq (by simp only [closesF, c_20, if_false]; exact clB.rf.eq n2 n3) rfl⟩
end NARROW
