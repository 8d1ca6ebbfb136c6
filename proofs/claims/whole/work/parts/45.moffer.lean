/-! MODEL: offer -/
theorem sm_bd {f v : Nat → Int32} : ∀ n, n ≤ 8 → fcR n f → (∀ k, k < n → -50 ≤ (v k).toInt ∧ (v k).toInt ≤ 50) → -(1000 * n : Int) ≤ (sumF f v n).toInt ∧ (sumF f v n).toInt ≤ 1000 * n
  | 0, _, _, _ => by simp only [sumF, i0]; omega
  | n + 1, h8, hf, hv => by
    obtain ⟨g1, g2⟩ := sm_bd n (by omega) (fun k hk => hf k (by omega)) (fun k hk => hv k (by omega))
    obtain ⟨e1, e2, e3⟩ := tI_fx (hf n (by omega)).1 (hf n (by omega)).2 (hv n (by omega)).1 (hv n (by omega)).2
    show _ ≤ (sumF f v n + f n * v n).toInt ∧ (sumF f v n + f n * v n).toInt ≤ _
    rw [tI_add (by omega) (by omega), e1]
    omega
theorem sm_congr {f v f' v' : Nat → Int32} : ∀ n, (∀ k, k < n → f k = f' k) → (∀ k, k < n → v k = v' k) → sumF f v n = sumF f' v' n
  | 0, _, _ => rfl
  | n + 1, hf, hv => by
    show sumF f v n + f n * v n = sumF f' v' n + f' n * v' n
    rw [hf n (by omega), hv n (by omega), sm_congr n (fun k hk => hf k (by omega)) (fun k hk => hv k (by omega))]
theorem ok0 {s r : Int32} : okR 0 s r = if r < s then 0 else 1 := by
  unfold okR
  rw [show bindsF 0 1 = 1 by decide, show bindsF 0 (-1) = 0 by decide]; simp
theorem ok1 {s r : Int32} : okR 1 s r = if r ≤ s then 1 else 0 := by
  unfold okR
  rw [show bindsF 1 1 = 0 by decide, show bindsF 1 (-1) = 1 by decide]; simp
theorem ok2 {s r : Int32} : okR 2 s r = if s = r then 1 else 0 := by
  unfold okR
  rw [show bindsF 2 1 = 1 by decide, show bindsF 2 (-1) = 1 by decide]
  by_cases c : s = r
  · subst c
    have h1 : ¬ s < s := by rw [Int32.lt_iff_toInt_lt]; omega
    have h2 : s ≤ s := by rw [Int32.le_iff_toInt_le]; omega
    simp [h1, h2]
  · have hc : ¬ s.toInt = r.toInt := fun q => c (Int32.toInt_inj.mp q)
    by_cases d : r < s
    · simp [c, d]
    · have h2 : ¬ r ≤ s := by rw [Int32.lt_iff_toInt_lt] at d; rw [Int32.le_iff_toInt_le]; omega
      simp [c, d, h2]
def of1 (μ : Nat → Nat → Int32) (x : Int32) : Nat → Nat → Int32 := va_up (va_up (th μ) 40 (upd (th μ 40) 14 1)) 40 (upd (va_up (th μ) 40 (upd (th μ 40) 14 1) 40) 15 x)
def of2 (μ : Nat → Nat → Int32) (x : Int32) (i : Nat) : Nat → Nat → Int32 := va_up (of1 μ x) 52 (cpn i (μ 46) (μ 52))
theorem tk_fr {V : Nat → Nat → Int32} {ka k : Nat} {x : Int32} (h1 : k ≠ 9) (h2 : k ≠ 10) : tkF V ka x k = V k := by
  unfold tkF tk0; rw [va_up_ne _ _ h1, va_up_ne _ _ h2]
section MOFFER
variable {l : Launch} {E : zE} {ad : Nat → Nat} {al c n rc sz : Nat} {V μ : Nat → Nat → Int32} {pv pa : Nat → Nat → Int64}
theorem MM.offer {x : Int32} (hM : MM n rc sz V pv μ pa) (h8 : n ≤ 8) : MM n rc sz (tkF V 23 x) pv (of2 μ x n) pa := by
  obtain ⟨m1, m2, m3, m4, m5, m6, m7⟩ := hM
  refine ⟨mP.fr (μ := of2 μ x n) m1 fun k hk => tk_fr (by omega) (by omega), ⟨rfl, rfl⟩, mT.fr (μ := of2 μ x n) m3 fun k hk => tk_fr (by omega) (by omega), m4, m5, m6, fun _ k hk => ?_⟩
  show cpn n (μ 46) (μ 52) k = cpn 8 (V 23) (V 10) k
  unfold cpn
  rw [if_pos hk, if_pos (by omega)]
  exact m5.1 k (by omega)
set_option maxRecDepth 100000 in
set_option maxHeartbeats 4000000 in
theorem lp1_Mo_offer {X : zX} {post : Option Value → (Nat → Nat) → zH → Prop} (C : zc X E b_Mo_offer 5 "BranchTreesModel" (zR 1)) (Z : zr X E (some .int) 0 0 post) (h8 : n ≤ 8) (hP : mP n rc V μ) (hK : mK V μ) {w3 w4 : Option Value} {S : Int32} {h : zH} (hR : zRep E ad al μ pa h) (hpost : S = 0 → post (some (.int 0)) ad h) (kx : S = 1 → zz X E 5 ad 0 0 68 [some (.ref (ad 40)), some (.int (sumF (V 4) (V 23) n)), some (.int (nI n)), w3, w4] [] h) :
    ∀ (d i : Nat), n - i = d → i ≤ n → spL (V 2) (V 3) (V 23) d i = S → zz X E 5 ad 0 0 9 [some (.ref (ad 40)), some (.int (sumF (V 4) (V 23) i)), some (.int (nI i)), w3, w4] [] h := by
  intro d
  induction d with
  | zero =>
    intro i hd hi hS
    have e : i = n := by omega
    subst e
    refine zz_iload_n C d_Mo_offer_9 rfl rfl ?_
    refine zz_aload_n C d_Mo_offer_10 rfl rfl ?_
    refine zz_getV C hR (nI i) _ d_Mo_offer_11 zf_Mo_85 rfl rfl hP.1 ?_
    refine zz_icmp_ge (tgt := 68) C d_Mo_offer_14 (by decide) (fun c_14 => ?_) (fun c_14 => ?_)
    · exact kx hS.symm
    · exact absurd (nI_le (Nat.le_refl _) (by omega)) c_14
  | succ d ih =>
    intro i hd hi hS
    have hlt : i < n := by omega
    have K := ih (i + 1) (by omega) hlt
    have e : sumF (V 4) (V 23) (i + 1) = sumF (V 4) (V 23) i + V 4 i * V 23 i := rfl
    rw [e] at K
    unfold spL at hS
    obtain ⟨e1, e2, e3⟩ := hP.2.2.1 i (by omega)
    have e4 := hK.1 i (by omega)
    refine zz_iload_n C d_Mo_offer_9 rfl rfl ?_
    refine zz_aload_n C d_Mo_offer_10 rfl rfl ?_
    refine zz_getV C hR (nI n) _ d_Mo_offer_11 zf_Mo_85 rfl rfl hP.1 ?_
    refine zz_icmp_ge (tgt := 68) C d_Mo_offer_14 (by decide) (fun c_14 => ?_) (fun c_14 => ?_)
    · exact absurd c_14 (nI_ge hlt (by omega))
    · refine zz_aload_n C d_Mo_offer_17 rfl rfl ?_
      refine zz_get C d_Mo_offer_18 zf_Mo_30 ((hR _).trans rfl) rfl ?_
      refine zz_iload_n C d_Mo_offer_21 rfl rfl ?_
      refine zz_ialdV (j := i) C hR (V 23 i) d_Mo_offer_22 (fun _ _ => rfl) rfl (by omega) (by decide) e4 ?_
      refine zz_i2l C d_Mo_offer_23 ?_
      refine zz_aload_n C d_Mo_offer_24 rfl rfl ?_
      refine zz_get C d_Mo_offer_25 zf_Mo_13 ((hR _).trans rfl) rfl ?_
      refine zz_iload_n C d_Mo_offer_28 rfl rfl ?_
      refine zz_ialdV (j := i) C hR (V 2 i) d_Mo_offer_29 (fun _ _ => rfl) rfl (by omega) (by decide) e1 ?_
      refine zz_i2l C d_Mo_offer_30 ?_
      refine zz_aload_n C d_Mo_offer_31 rfl rfl ?_
      refine zz_get C d_Mo_offer_32 zf_Mo_17 ((hR _).trans rfl) rfl ?_
      refine zz_iload_n C d_Mo_offer_35 rfl rfl ?_
      refine zz_ialdV (j := i) C hR (V 3 i) d_Mo_offer_36 (fun _ _ => rfl) rfl (by omega) (by decide) e2 ?_
      refine zz_i2l C d_Mo_offer_37 ?_
      refine zz_callSr (e := 0) C hR d_Mo_offer_38 mk_Mo_88 zy_Mo_in (m_Mo_in (x := V 23 i) (y := V 2 i) (z := V 3 i) rfl rfl rfl) ⟨by decide, by decide⟩ ⟨Nat.zero_le _, Nat.zero_le _⟩ rfl rfl (Nat.le_of_ble_eq_true rfl) ?_
      refine zz_if_ne (tgt := 46) C d_Mo_offer_41 (by decide) (fun c_41 => ?_) (fun c_41 => ?_)
      · have q1 : ¬ V 23 i < V 2 i := fun z => c_41 (by unfold inF; rw [if_pos z])
        have q2 : V 23 i ≤ V 3 i := Decidable.byContradiction fun z => c_41 (by unfold inF; rw [if_neg q1, if_pos (i32_lt z)])
        rw [if_neg q1, if_pos q2] at hS
        refine zz_iload_n C d_Mo_offer_46 rfl rfl ?_
        refine zz_aload_n C d_Mo_offer_47 rfl rfl ?_
        refine zz_get C d_Mo_offer_48 zf_Mo_27 ((hR _).trans rfl) rfl ?_
        refine zz_iload_n C d_Mo_offer_51 rfl rfl ?_
        refine zz_ialdV (j := i) C hR (V 4 i) d_Mo_offer_52 (fun _ _ => rfl) rfl (by omega) (by decide) e3 ?_
        refine zz_aload_n C d_Mo_offer_53 rfl rfl ?_
        refine zz_get C d_Mo_offer_54 zf_Mo_30 ((hR _).trans rfl) rfl ?_
        refine zz_iload_n C d_Mo_offer_57 rfl rfl ?_
        refine zz_ialdV (j := i) C hR (V 23 i) d_Mo_offer_58 (fun _ _ => rfl) rfl (by omega) (by decide) e4 ?_
        refine zz_imul C d_Mo_offer_59 ?_
        refine zz_iadd C d_Mo_offer_60 ?_
        refine zz_istore_n C d_Mo_offer_61 rfl (by decide) rfl ?_
        refine zz_iinc C d_Mo_offer_62 rfl (nI_inc _) (by decide) rfl ?_
        refine zz_goto (tgt := 9) C d_Mo_offer_65 (by decide) ?_
        exact K hS
      · refine zz_iconst (v := 0) C d_Mo_offer_44 (by decide) ?_
        refine zz_iret C Z d_Mo_offer_45 ?_
        refine hpost ?_
        rw [← hS]
        by_cases q1 : V 23 i < V 2 i
        · rw [if_pos q1]
        · by_cases q2 : V 23 i ≤ V 3 i
          · unfold inF at c_41; rw [if_neg q1, if_neg (i32_nlt q2)] at c_41; exact absurd c_41 (by decide)
          · rw [if_neg q1, if_neg q2]
set_option maxRecDepth 100000 in
set_option maxHeartbeats 4000000 in
theorem lp3_Mo_offer {X : zX} {post : Option Value → (Nat → Nat) → zH → Prop} (C : zc X E b_Mo_offer 5 "BranchTreesModel" (zR 1)) (Z : zr X E (some .int) 0 0 post) (h8 : n ≤ 8) (hP : mP n rc V μ) (hK : mK V μ) {r : Nat} (hr : r < 16) {x : Int32} {h : zH} (hR : zRep E ad al μ pa h) (kx : zz X E 5 ad 0 0 121 [some (.ref (ad 40)), some (.int (x)), some (.int (nI r)), some (.int (sumF (V (24 + r)) (V 23) n)), some (.int (nI n))] [] h) :
    ∀ (d i : Nat), n - i = d → i ≤ n → zz X E 5 ad 0 0 83 [some (.ref (ad 40)), some (.int (x)), some (.int (nI r)), some (.int (sumF (V (24 + r)) (V 23) i)), some (.int (nI i))] [] h := by
  intro d
  induction d with
  | zero =>
    intro i hd hi
    have e : i = n := by omega
    subst e
    refine zz_iload C d_Mo_offer_83 rfl ?_
    refine zz_aload_n C d_Mo_offer_85 rfl rfl ?_
    refine zz_getV C hR (nI i) _ d_Mo_offer_86 zf_Mo_85 rfl rfl hP.1 ?_
    refine zz_icmp_ge (tgt := 121) C d_Mo_offer_89 (by decide) (fun c_89 => ?_) (fun c_89 => ?_)
    · exact kx
    · exact absurd (nI_le (Nat.le_refl _) (by omega)) c_89
  | succ d ih =>
    intro i hd hi
    have hlt : i < n := by omega
    have K := ih (i + 1) (by omega) hlt
    have e : sumF (V (24 + r)) (V 23) (i + 1) = sumF (V (24 + r)) (V 23) i + V (24 + r) i * V 23 i := rfl
    rw [e] at K
    have e3 := (hP.2.2.2 r hr).2.2.2 i (by omega)
    have e4 := hK.1 i (by omega)
    refine zz_iload C d_Mo_offer_83 rfl ?_
    refine zz_aload_n C d_Mo_offer_85 rfl rfl ?_
    refine zz_getV C hR (nI n) _ d_Mo_offer_86 zf_Mo_85 rfl rfl hP.1 ?_
    refine zz_icmp_ge (tgt := 121) C d_Mo_offer_89 (by decide) (fun c_89 => ?_) (fun c_89 => ?_)
    · exact absurd c_89 (nI_ge hlt (by omega))
    · refine zz_iload_n C d_Mo_offer_92 rfl rfl ?_
      refine zz_aload_n C d_Mo_offer_93 rfl rfl ?_
      refine zz_get C d_Mo_offer_94 zf_Mo_33 ((hR _).trans rfl) rfl ?_
      refine zz_bipush (v := 8) C d_Mo_offer_97 (by decide) ?_
      refine zz_iload_n C d_Mo_offer_99 rfl rfl ?_
      refine zz_imul C d_Mo_offer_100 ?_
      refine zz_iload C d_Mo_offer_101 rfl ?_
      refine zz_iadd C d_Mo_offer_103 ?_
      refine zz_ialdV (j := 8 * r + i) C hR (V (24 + r) i) d_Mo_offer_104 (fun _ _ => rfl) (ix8 r i) (by omega) (by decide) e3 ?_
      refine zz_aload_n C d_Mo_offer_105 rfl rfl ?_
      refine zz_get C d_Mo_offer_106 zf_Mo_30 ((hR _).trans rfl) rfl ?_
      refine zz_iload C d_Mo_offer_109 rfl ?_
      refine zz_ialdV (j := i) C hR (V 23 i) d_Mo_offer_111 (fun _ _ => rfl) rfl (by omega) (by decide) e4 ?_
      refine zz_imul C d_Mo_offer_112 ?_
      refine zz_iadd C d_Mo_offer_113 ?_
      refine zz_istore_n C d_Mo_offer_114 rfl (by decide) rfl ?_
      refine zz_iinc C d_Mo_offer_115 rfl (nI_inc _) (by decide) rfl ?_
      refine zz_goto (tgt := 83) C d_Mo_offer_118 (by decide) ?_
      exact K
set_option maxRecDepth 100000 in
set_option maxHeartbeats 4000000 in
theorem lp2_Mo_offer {X : zX} {post : Option Value → (Nat → Nat) → zH → Prop} (C : zc X E b_Mo_offer 5 "BranchTreesModel" (zR 1)) (Z : zr X E (some .int) 0 0 post) (h8 : n ≤ 8) (h16 : rc ≤ 16) (hP : mP n rc V μ) (hK : mK V μ) (hS5 : sR rc V) {S x : Int32} {h : zH} (hR : zRep E ad al μ pa h) (hpost : S = 0 → post (some (.int 0)) ad h) (kx : ∀ w3 w4, S = 1 → zz X E 5 ad 0 0 206 [some (.ref (ad 40)), some (.int (x)), some (.int (nI rc)), w3, w4] [] h) :
    ∀ (d r : Nat) (w3 w4 : Option Value), rc - r = d → r ≤ rc → rwL V 23 n d r = S → zz X E 5 ad 0 0 70 [some (.ref (ad 40)), some (.int (x)), some (.int (nI r)), w3, w4] [] h := by
  intro d
  induction d with
  | zero =>
    intro r w3 w4 hd hr hS
    have e : r = rc := by omega
    subst e
    refine zz_iload_n C d_Mo_offer_70 rfl rfl ?_
    refine zz_aload_n C d_Mo_offer_71 rfl rfl ?_
    refine zz_getV C hR (nI r) _ d_Mo_offer_72 zf_Mo_115 rfl rfl hP.2.1 ?_
    refine zz_icmp_ge (tgt := 206) C d_Mo_offer_75 (by decide) (fun c_75 => ?_) (fun c_75 => ?_)
    · exact kx _ _ hS.symm
    · exact absurd (nI_le (Nat.le_refl _) (by omega)) c_75
  | succ d ih =>
    intro r w3 w4 hd hr hS
    have hlt : r < rc := by omega
    have K := fun w3 w4 => ih (r + 1) w3 w4 (by omega) hlt
    unfold rwL at hS
    obtain ⟨e5, e6, -, -⟩ := hP.2.2.2 r (by omega)
    refine zz_iload_n C d_Mo_offer_70 rfl rfl ?_
    refine zz_aload_n C d_Mo_offer_71 rfl rfl ?_
    refine zz_getV C hR (nI rc) _ d_Mo_offer_72 zf_Mo_115 rfl rfl hP.2.1 ?_
    refine zz_icmp_ge (tgt := 206) C d_Mo_offer_75 (by decide) (fun c_75 => ?_) (fun c_75 => ?_)
    · exact absurd c_75 (nI_ge hlt (by omega))
    · refine zz_iconst (v := 0) C d_Mo_offer_78 (by decide) ?_
      refine zz_istore_n C d_Mo_offer_79 rfl (by decide) rfl ?_
      refine zz_iconst (v := 0) C d_Mo_offer_80 (by decide) ?_
      refine zz_istore C d_Mo_offer_81 (by decide) rfl ?_
      refine lp3_Mo_offer C Z h8 hP hK (show r < 16 by omega) hR ?_ n 0 rfl (Nat.zero_le _)
      rcases hS5 r hlt with s5 | s5 | s5
      · rw [s5] at e5 hS
        rw [ok0] at hS
        refine zz_aload_n C d_Mo_offer_121 rfl rfl ?_
        refine zz_get C d_Mo_offer_122 zf_Mo_36 ((hR _).trans rfl) rfl ?_
        refine zz_iload_n C d_Mo_offer_125 rfl rfl ?_
        refine zz_ialdV (j := r) C hR (0) d_Mo_offer_126 (fun _ _ => rfl) rfl (by omega) (by decide) e5 ?_
        refine zz_if_ne (tgt := 148) C d_Mo_offer_127 (by decide) (fun c_127 => ?_) (fun c_127 => ?_)
        · exact absurd rfl c_127
        · refine zz_iload_n C d_Mo_offer_130 rfl rfl ?_
          refine zz_aload_n C d_Mo_offer_131 rfl rfl ?_
          refine zz_get C d_Mo_offer_132 zf_Mo_39 ((hR _).trans rfl) rfl ?_
          refine zz_iload_n C d_Mo_offer_135 rfl rfl ?_
          refine zz_ialdV (j := r) C hR (V 6 r) d_Mo_offer_136 (fun _ _ => rfl) rfl (by omega) (by decide) e6 ?_
          refine zz_icmp_gt (tgt := 144) C d_Mo_offer_137 (by decide) (fun c_137 => ?_) (fun c_137 => ?_)
          · refine zz_iconst (v := 0) C d_Mo_offer_144 (by decide) ?_
            refine zz_goto (tgt := 191) C d_Mo_offer_145 (by decide) ?_
            rw [if_pos c_137] at hS
            rw [if_pos rfl] at hS
            refine zz_istore C d_Mo_offer_191 (by decide) rfl ?_
            refine zz_iload C d_Mo_offer_193 rfl ?_
            refine zz_if_ne (tgt := 200) C d_Mo_offer_195 (by decide) (fun c_195 => ?_) (fun c_195 => ?_)
            · exact absurd rfl c_195
            · refine zz_iconst (v := 0) C d_Mo_offer_198 (by decide) ?_
              refine zz_iret C Z d_Mo_offer_199 ?_
              exact hpost hS.symm
          · refine zz_iconst (v := 1) C d_Mo_offer_140 (by decide) ?_
            refine zz_goto (tgt := 191) C d_Mo_offer_141 (by decide) ?_
            rw [if_neg c_137] at hS
            rw [if_neg (by decide)] at hS
            refine zz_istore C d_Mo_offer_191 (by decide) rfl ?_
            refine zz_iload C d_Mo_offer_193 rfl ?_
            refine zz_if_ne (tgt := 200) C d_Mo_offer_195 (by decide) (fun c_195 => ?_) (fun c_195 => ?_)
            · refine zz_iinc C d_Mo_offer_200 rfl (nI_inc _) (by decide) rfl ?_
              refine zz_goto (tgt := 70) C d_Mo_offer_203 (by decide) ?_
              exact K _ _ hS
            · exact absurd c_195 (by decide)
      · rw [s5] at e5 hS
        rw [ok1] at hS
        refine zz_aload_n C d_Mo_offer_121 rfl rfl ?_
        refine zz_get C d_Mo_offer_122 zf_Mo_36 ((hR _).trans rfl) rfl ?_
        refine zz_iload_n C d_Mo_offer_125 rfl rfl ?_
        refine zz_ialdV (j := r) C hR (1) d_Mo_offer_126 (fun _ _ => rfl) rfl (by omega) (by decide) e5 ?_
        refine zz_if_ne (tgt := 148) C d_Mo_offer_127 (by decide) (fun c_127 => ?_) (fun c_127 => ?_)
        · refine zz_aload_n C d_Mo_offer_148 rfl rfl ?_
          refine zz_get C d_Mo_offer_149 zf_Mo_36 ((hR _).trans rfl) rfl ?_
          refine zz_iload_n C d_Mo_offer_152 rfl rfl ?_
          refine zz_ialdV (j := r) C hR (1) d_Mo_offer_153 (fun _ _ => rfl) rfl (by omega) (by decide) e5 ?_
          refine zz_iconst (v := 1) C d_Mo_offer_154 (by decide) ?_
          refine zz_icmp_ne (tgt := 176) C d_Mo_offer_155 (by decide) (fun c_155 => ?_) (fun c_155 => ?_)
          · exact absurd rfl c_155
          · refine zz_iload_n C d_Mo_offer_158 rfl rfl ?_
            refine zz_aload_n C d_Mo_offer_159 rfl rfl ?_
            refine zz_get C d_Mo_offer_160 zf_Mo_39 ((hR _).trans rfl) rfl ?_
            refine zz_iload_n C d_Mo_offer_163 rfl rfl ?_
            refine zz_ialdV (j := r) C hR (V 6 r) d_Mo_offer_164 (fun _ _ => rfl) rfl (by omega) (by decide) e6 ?_
            refine zz_icmp_lt (tgt := 172) C d_Mo_offer_165 (by decide) (fun c_165 => ?_) (fun c_165 => ?_)
            · refine zz_iconst (v := 0) C d_Mo_offer_172 (by decide) ?_
              refine zz_goto (tgt := 191) C d_Mo_offer_173 (by decide) ?_
              rw [if_neg (fun z => i32_nlt z c_165)] at hS
              rw [if_pos rfl] at hS
              refine zz_istore C d_Mo_offer_191 (by decide) rfl ?_
              refine zz_iload C d_Mo_offer_193 rfl ?_
              refine zz_if_ne (tgt := 200) C d_Mo_offer_195 (by decide) (fun c_195 => ?_) (fun c_195 => ?_)
              · exact absurd rfl c_195
              · refine zz_iconst (v := 0) C d_Mo_offer_198 (by decide) ?_
                refine zz_iret C Z d_Mo_offer_199 ?_
                exact hpost hS.symm
            · refine zz_iconst (v := 1) C d_Mo_offer_168 (by decide) ?_
              refine zz_goto (tgt := 191) C d_Mo_offer_169 (by decide) ?_
              rw [if_pos (Decidable.byContradiction fun z => c_165 (i32_lt z))] at hS
              rw [if_neg (by decide)] at hS
              refine zz_istore C d_Mo_offer_191 (by decide) rfl ?_
              refine zz_iload C d_Mo_offer_193 rfl ?_
              refine zz_if_ne (tgt := 200) C d_Mo_offer_195 (by decide) (fun c_195 => ?_) (fun c_195 => ?_)
              · refine zz_iinc C d_Mo_offer_200 rfl (nI_inc _) (by decide) rfl ?_
                refine zz_goto (tgt := 70) C d_Mo_offer_203 (by decide) ?_
                exact K _ _ hS
              · exact absurd c_195 (by decide)
        · exact absurd c_127 (by decide)
      · rw [s5] at e5 hS
        rw [ok2] at hS
        refine zz_aload_n C d_Mo_offer_121 rfl rfl ?_
        refine zz_get C d_Mo_offer_122 zf_Mo_36 ((hR _).trans rfl) rfl ?_
        refine zz_iload_n C d_Mo_offer_125 rfl rfl ?_
        refine zz_ialdV (j := r) C hR (2) d_Mo_offer_126 (fun _ _ => rfl) rfl (by omega) (by decide) e5 ?_
        refine zz_if_ne (tgt := 148) C d_Mo_offer_127 (by decide) (fun c_127 => ?_) (fun c_127 => ?_)
        · refine zz_aload_n C d_Mo_offer_148 rfl rfl ?_
          refine zz_get C d_Mo_offer_149 zf_Mo_36 ((hR _).trans rfl) rfl ?_
          refine zz_iload_n C d_Mo_offer_152 rfl rfl ?_
          refine zz_ialdV (j := r) C hR (2) d_Mo_offer_153 (fun _ _ => rfl) rfl (by omega) (by decide) e5 ?_
          refine zz_iconst (v := 1) C d_Mo_offer_154 (by decide) ?_
          refine zz_icmp_ne (tgt := 176) C d_Mo_offer_155 (by decide) (fun c_155 => ?_) (fun c_155 => ?_)
          · refine zz_iload_n C d_Mo_offer_176 rfl rfl ?_
            refine zz_aload_n C d_Mo_offer_177 rfl rfl ?_
            refine zz_get C d_Mo_offer_178 zf_Mo_39 ((hR _).trans rfl) rfl ?_
            refine zz_iload_n C d_Mo_offer_181 rfl rfl ?_
            refine zz_ialdV (j := r) C hR (V 6 r) d_Mo_offer_182 (fun _ _ => rfl) rfl (by omega) (by decide) e6 ?_
            refine zz_icmp_ne (tgt := 190) C d_Mo_offer_183 (by decide) (fun c_183 => ?_) (fun c_183 => ?_)
            · refine zz_iconst (v := 0) C d_Mo_offer_190 (by decide) ?_
              rw [if_neg c_183] at hS
              rw [if_pos rfl] at hS
              refine zz_istore C d_Mo_offer_191 (by decide) rfl ?_
              refine zz_iload C d_Mo_offer_193 rfl ?_
              refine zz_if_ne (tgt := 200) C d_Mo_offer_195 (by decide) (fun c_195 => ?_) (fun c_195 => ?_)
              · exact absurd rfl c_195
              · refine zz_iconst (v := 0) C d_Mo_offer_198 (by decide) ?_
                refine zz_iret C Z d_Mo_offer_199 ?_
                exact hpost hS.symm
            · refine zz_iconst (v := 1) C d_Mo_offer_186 (by decide) ?_
              refine zz_goto (tgt := 191) C d_Mo_offer_187 (by decide) ?_
              rw [if_pos c_183] at hS
              rw [if_neg (by decide)] at hS
              refine zz_istore C d_Mo_offer_191 (by decide) rfl ?_
              refine zz_iload C d_Mo_offer_193 rfl ?_
              refine zz_if_ne (tgt := 200) C d_Mo_offer_195 (by decide) (fun c_195 => ?_) (fun c_195 => ?_)
              · refine zz_iinc C d_Mo_offer_200 rfl (nI_inc _) (by decide) rfl ?_
                refine zz_goto (tgt := 70) C d_Mo_offer_203 (by decide) ?_
                exact K _ _ hS
              · exact absurd c_195 (by decide)
          · exact absurd c_155 (by decide)
        · exact absurd c_127 (by decide)
set_option maxRecDepth 100000 in
set_option maxHeartbeats 4000000 in
theorem lp4_Mo_offer {X : zX} {post : Option Value → (Nat → Nat) → zH → Prop} (C : zc X E b_Mo_offer 5 "BranchTreesModel" (zR 1)) (Z : zr X E (some .int) 0 0 post) (h8 : n ≤ 8) (hN : μ 40 1 = nI n) {x : Int32} {w3 w4 : Option Value} (hpost : ∀ h, zRep E ad al (of2 μ x n) pa h → post (some (.int 1)) ad h) :
    ∀ (d i : Nat), n - i = d → i ≤ n → ∀ h, zRep E ad al (of2 μ x i) pa h → zz X E 5 ad 0 0 235 [some (.ref (ad 40)), some (.int (x)), some (.int (nI i)), w3, w4] [] h := by
  intro d
  induction d with
  | zero =>
    intro i hd hi h hR
    have e : i = n := by omega
    subst e
    refine zz_iload_n C d_Mo_offer_235 rfl rfl ?_
    refine zz_aload_n C d_Mo_offer_236 rfl rfl ?_
    refine zz_getV C hR (nI i) _ d_Mo_offer_237 zf_Mo_85 rfl rfl hN ?_
    refine zz_icmp_ge (tgt := 261) C d_Mo_offer_240 (by decide) (fun c_240 => ?_) (fun c_240 => ?_)
    · refine zz_iconst (v := 1) C d_Mo_offer_261 (by decide) ?_
      refine zz_iret C Z d_Mo_offer_262 ?_
      exact hpost h hR
    · exact absurd (nI_le (Nat.le_refl _) (by omega)) c_240
  | succ d ih =>
    intro i hd hi h hR
    have hlt : i < n := by omega
    have K := ih (i + 1) (by omega) hlt
    have e5 : va_up (of2 μ x i) 52 (upd (of2 μ x i 52) i (μ 46 i)) = of2 μ x (i + 1) := by
      have : of2 μ x i 52 = cpn i (μ 46) (μ 52) := rfl
      rw [this, cpn_s]; unfold of2; rw [bx_uu]
    rw [← e5] at K
    refine zz_iload_n C d_Mo_offer_235 rfl rfl ?_
    refine zz_aload_n C d_Mo_offer_236 rfl rfl ?_
    refine zz_getV C hR (nI n) _ d_Mo_offer_237 zf_Mo_85 rfl rfl hN ?_
    refine zz_icmp_ge (tgt := 261) C d_Mo_offer_240 (by decide) (fun c_240 => ?_) (fun c_240 => ?_)
    · exact absurd c_240 (nI_ge hlt (by omega))
    · refine zz_aload_n C d_Mo_offer_243 rfl rfl ?_
      refine zz_get C d_Mo_offer_244 zf_Mo_49 ((hR _).trans rfl) rfl ?_
      refine zz_iload_n C d_Mo_offer_247 rfl rfl ?_
      refine zz_aload_n C d_Mo_offer_248 rfl rfl ?_
      refine zz_get C d_Mo_offer_249 zf_Mo_30 ((hR _).trans rfl) rfl ?_
      refine zz_iload_n C d_Mo_offer_252 rfl rfl ?_
      refine zz_ialdV (j := i) C hR (μ 46 i) d_Mo_offer_253 (fun _ _ => rfl) rfl (by omega) (by decide) rfl ?_
      refine zz_iastR (j := i) C hR d_Mo_offer_254 (fun _ _ => rfl) rfl (by omega) (by decide) (fun h hR => ?_)
      refine zz_iinc C d_Mo_offer_255 rfl (nI_inc _) (by decide) rfl ?_
      refine zz_goto (tgt := 235) C d_Mo_offer_258 (by decide) ?_
      exact K h hR
set_option maxRecDepth 100000 in
set_option maxHeartbeats 4000000 in
theorem m_Mo_offer (hC : CI n rc sz al c V) (hM : MM n rc sz V pv μ pa) : xMet l y_Mo_offer b_Mo_offer 5 (zR 1) E [.ref (ad 40)] ad al μ pa (ofF n rc V pv).1 (MM n rc sz (ofF n rc V pv).2.1 (ofF n rc V pv).2.2) := by
  have h8 := hC.n8
  have h16 := hC.r16
  have hP : mP n rc V (th μ) := hM.1.sc th_sc
  have hK : mK V (th μ) := hM.2.2.2.2.1
  intro h hR
  refine zMet.of (L := [some (.ref (ad 40)), none, none, none, none]) (by decide +kernel) (Nat.le_of_ble_eq_true rfl) rfl 4 rfl fun X hl C Z => ?_
  refine zz_aload_n C d_Mo_offer_0 rfl rfl ?_
  refine zz_iconst (v := 0) C d_Mo_offer_1 (by decide) ?_
  refine zz_putI C hR d_Mo_offer_2 zp_Mo_1 rfl rfl rfl (Nat.le_of_ble_eq_true rfl) rfl (fun h hR => ?_)
  have hR : zRep E ad al (th μ) pa h := hR
  refine zz_iconst (v := 0) C d_Mo_offer_5 (by decide) ?_
  refine zz_istore_n C d_Mo_offer_6 rfl (by decide) rfl ?_
  refine zz_iconst (v := 0) C d_Mo_offer_7 (by decide) ?_
  refine zz_istore_n C d_Mo_offer_8 rfl (by decide) rfl ?_
  have Z0 : plF V 23 n rc = 0 → some (Value.int 0) = some (Value.int (ofF n rc V pv).1) ∧ ad = ad ∧ ∃ m pm, fx μ pa m pm ∧ MM n rc sz (ofF n rc V pv).2.1 (ofF n rc V pv).2.2 m pm ∧ zRep E ad al m pm h := by
    intro z
    unfold ofF
    rw [if_neg (fun q => q z)]
    exact ⟨rfl, rfl, th μ, pa, th_fx, hM.sc th_sc, hR⟩
  refine lp1_Mo_offer C Z h8 hP hK (S := spL (V 2) (V 3) (V 23) n 0) hR (fun z => Z0 (by unfold plF; rw [if_pos z])) (fun z1 => ?_) n 0 rfl (Nat.zero_le _) rfl
  refine zz_iconst (v := 0) C d_Mo_offer_68 (by decide) ?_
  refine zz_istore_n C d_Mo_offer_69 rfl (by decide) rfl ?_
  refine lp2_Mo_offer C Z h8 h16 hP hK hC.sR (S := rwL V 23 n rc 0) hR (fun z => Z0 (by unfold plF; rw [if_neg (by rw [z1]; decide)]; exact z)) (fun w3 w4 z2 => ?_) rc 0 _ _ rfl (Nat.zero_le _) rfl
  have zp : ¬ plF V 23 n rc = 0 := by unfold plF; rw [if_neg (by rw [z1]; decide), z2]; decide
  have hb1 : th μ 40 14 = V 9 1 := hM.2.1.1
  have hb2 : th μ 40 15 = V 9 2 := hM.2.1.2
  refine zz_aload_n C d_Mo_offer_206 rfl rfl ?_
  refine zz_getV C hR (V 9 1) _ d_Mo_offer_207 zf_Mo_98 rfl rfl hb1 ?_
  refine zz_if_eq (tgt := 223) C d_Mo_offer_210 (by decide) (fun c_210 => ?_) (fun c_210 => ?_)
  · refine zz_aload_n C d_Mo_offer_223 rfl rfl ?_
    refine zz_iconst (v := 1) C d_Mo_offer_224 (by decide) ?_
    refine zz_putI C hR d_Mo_offer_225 zp_Mo_98 rfl rfl rfl (Nat.le_of_ble_eq_true rfl) rfl (fun h hR => ?_)
    refine zz_aload_n C d_Mo_offer_228 rfl rfl ?_
    refine zz_iload_n C d_Mo_offer_229 rfl rfl ?_
    refine zz_putI C hR d_Mo_offer_230 zp_Mo_136 rfl rfl rfl (Nat.le_of_ble_eq_true rfl) rfl (fun h hR => ?_)
    refine zz_iconst (v := 0) C d_Mo_offer_233 (by decide) ?_
    refine zz_istore_n C d_Mo_offer_234 rfl (by decide) rfl ?_
    refine lp4_Mo_offer (μ := μ) (x := sumF (V 4) (V 23) n) C Z h8 hM.N (fun h hR => ?_) n 0 rfl (Nat.zero_le _) h (hR.eq (by unfold of2; rw [cpn_0]; exact (va_up_id (of1 μ _) 52).symm) rfl)
    have hnab : nabF (V 9 1) (V 9 2) (sumF (V 4) (V 23) n) = 0 := by unfold nabF; simp only [c_210, if_true, if_false, not_true_eq_false, not_false_eq_true, ite_self]
    refine ⟨?_, rfl, of2 μ (sumF (V 4) (V 23) n) n, pa, ((th_fx.up ⟨by decide, by decide⟩).up ⟨by decide, by decide⟩).up ⟨by decide, by decide⟩, ?_, hR⟩
    · unfold ofF; rw [if_pos zp, if_pos hnab]
    · unfold ofF; rw [if_pos zp, if_pos hnab]; exact hM.offer h8
  · refine zz_iload_n C d_Mo_offer_213 rfl rfl ?_
    refine zz_aload_n C d_Mo_offer_214 rfl rfl ?_
    refine zz_getV C hR (V 9 2) _ d_Mo_offer_215 zf_Mo_136 rfl rfl hb2 ?_
    refine zz_icmp_lt (tgt := 223) C d_Mo_offer_218 (by decide) (fun c_218 => ?_) (fun c_218 => ?_)
    · refine zz_aload_n C d_Mo_offer_223 rfl rfl ?_
      refine zz_iconst (v := 1) C d_Mo_offer_224 (by decide) ?_
      refine zz_putI C hR d_Mo_offer_225 zp_Mo_98 rfl rfl rfl (Nat.le_of_ble_eq_true rfl) rfl (fun h hR => ?_)
      refine zz_aload_n C d_Mo_offer_228 rfl rfl ?_
      refine zz_iload_n C d_Mo_offer_229 rfl rfl ?_
      refine zz_putI C hR d_Mo_offer_230 zp_Mo_136 rfl rfl rfl (Nat.le_of_ble_eq_true rfl) rfl (fun h hR => ?_)
      refine zz_iconst (v := 0) C d_Mo_offer_233 (by decide) ?_
      refine zz_istore_n C d_Mo_offer_234 rfl (by decide) rfl ?_
      refine lp4_Mo_offer (μ := μ) (x := sumF (V 4) (V 23) n) C Z h8 hM.N (fun h hR => ?_) n 0 rfl (Nat.zero_le _) h (hR.eq (by unfold of2; rw [cpn_0]; exact (va_up_id (of1 μ _) 52).symm) rfl)
      have hnab : nabF (V 9 1) (V 9 2) (sumF (V 4) (V 23) n) = 0 := by unfold nabF; simp only [c_210, c_218, if_true, if_false, not_true_eq_false, not_false_eq_true, ite_self]
      refine ⟨?_, rfl, of2 μ (sumF (V 4) (V 23) n) n, pa, ((th_fx.up ⟨by decide, by decide⟩).up ⟨by decide, by decide⟩).up ⟨by decide, by decide⟩, ?_, hR⟩
      · unfold ofF; rw [if_pos zp, if_pos hnab]
      · unfold ofF; rw [if_pos zp, if_pos hnab]; exact hM.offer h8
    · refine zz_iconst (v := 0) C d_Mo_offer_221 (by decide) ?_
      refine zz_iret C Z d_Mo_offer_222 ?_
      have hnab : ¬ nabF (V 9 1) (V 9 2) (sumF (V 4) (V 23) n) = 0 := by unfold nabF; rw [if_neg c_210, if_neg c_218]; decide
      unfold ofF
      rw [if_pos zp, if_neg hnab]
      exact ⟨rfl, rfl, th μ, pa, th_fx, hM.sc th_sc, hR⟩
theorem s_offer (hC : CI n rc sz al c V) (hM : MM n rc sz V pv μ pa) : OK al c V (ofF n rc V pv).2.1 pv (ofF n rc V pv).2.2 (xMet l y_Mo_offer b_Mo_offer 5 (zR 1) E [.ref (ad 40)] ad al μ pa (ofF n rc V pv).1) := by
  have hW := m_Mo_offer (l := l) (E := E) (ad := ad) hC hM
  have h8 := hC.n8
  suffices hs : (∀ k, 40 ≤ k → k < 64 → (ofF n rc V pv).2.1 k = V k) ∧ (ofF n rc V pv).2.2 43 = pv 43 ∧ CI n rc sz al c (ofF n rc V pv).2.1 from ⟨hs.1, hs.2.1, n, rc, sz, hs.2.2, hW⟩
  unfold ofF
  by_cases c1 : plF V 23 n rc = 0
  · rw [if_neg (fun q => q c1)]; exact ⟨fun _ _ _ => rfl, rfl, hC⟩
  · rw [if_pos c1]
    by_cases c2 : nabF (V 9 1) (V 9 2) (sumF (V 4) (V 23) n) = 0
    · rw [if_pos c2]
      have hs := sm_bd n h8 hC.fc (fun k hk => hC.2.1.1 k (by omega))
      refine ⟨fun k h1 h2 => tk_fr (by omega) (by omega), rfl, hC.1.fr fun k hk => tk_fr (by omega) (by omega), hC.2.1, fun _ => ?_, hC.2.2.2.1, hC.2.2.2.2.fr fun k hk => tk_fr (by omega) (by omega)⟩
      show -8000 ≤ (sumF (V 4) (V 23) n).toInt ∧ (sumF (V 4) (V 23) n).toInt ≤ 8000
      omega
    · rw [if_neg c2]; exact ⟨fun _ _ _ => rfl, rfl, hC⟩
end MOFFER
