/-! MODEL.keeps: what closes does, on the model's own bounds -/
def moB (μ m : Nat → Nat → Int32) (s : zB) : Prop := m 62 = s.1 ∧ m 63 = s.2.1 ∧ m 40 = upd (μ 40) 30 s.2.2 ∧ ∀ k, k ≠ 40 → k ≠ 62 → k ≠ 63 → m k = μ k
def setM (μ : Nat → Nat → Int32) (s : zB) : Nat → Nat → Int32 := va_up (va_up (va_up μ 62 s.1) 63 s.2.1) 40 (upd (μ 40) 30 s.2.2)
theorem moB.eq {μ m : Nat → Nat → Int32} {s : zB} (h : moB μ m s) : m = setM μ s := by
  obtain ⟨h1, h2, h3, h4⟩ := h
  funext k
  unfold setM
  by_cases e1 : k = 40
  · subst e1; rw [va_up_self, h3]
  · rw [va_up_ne _ _ e1]
    by_cases e2 : k = 63
    · subst e2; rw [va_up_self, h2]
    · rw [va_up_ne _ _ e2]
      by_cases e3 : k = 62
      · subst e3; rw [va_up_self, h1]
      · rw [va_up_ne _ _ e3]; exact h4 k e1 e3 e2
theorem moB.rf {μ : Nat → Nat → Int32} : moB μ μ (μ 62, μ 63, μ 40 30) := ⟨rfl, rfl, (upd_id _ _).symm, fun _ _ _ _ => rfl⟩
theorem moB.of {μ : Nat → Nat → Int32} {s : zB} : moB μ (setM μ s) s := ⟨rfl, rfl, rfl, fun k a b c => by unfold setM; rw [va_up_ne _ _ a, va_up_ne _ _ c, va_up_ne _ _ b]⟩
theorem moB.hi {μ m : Nat → Nat → Int32} {s : zB} {i : Nat} {v : Int32} (h : moB μ m s) : moB μ (va_up (va_up m 63 (upd (m 63) i v)) 40 (upd (va_up m 63 (upd (m 63) i v) 40) 30 1)) (s.1, upd s.2.1 i v, 1) := by
  obtain ⟨h1, h2, h3, h4⟩ := h
  refine ⟨h1, ?_, ?_, fun k a b c => ?_⟩
  · show upd (m 63) i v = _; rw [h2]
  · show upd (m 40) 30 1 = _; rw [h3, upd_uu]
  · rw [va_up_ne _ _ a, va_up_ne _ _ c]; exact h4 k a b c
theorem moB.lo {μ m : Nat → Nat → Int32} {s : zB} {i : Nat} {v : Int32} (h : moB μ m s) : moB μ (va_up (va_up m 62 (upd (m 62) i v)) 40 (upd (va_up m 62 (upd (m 62) i v) 40) 30 1)) (upd s.1 i v, s.2.1, 1) := by
  obtain ⟨h1, h2, h3, h4⟩ := h
  refine ⟨?_, h2, ?_, fun k a b c => ?_⟩
  · show upd (m 62) i v = _; rw [h1]
  · show upd (m 40) 30 1 = _; rw [h3, upd_uu]
  · rw [va_up_ne _ _ a, va_up_ne _ _ b]; exact h4 k a b c
theorem moB.f40 {μ m : Nat → Nat → Int32} {s : zB} {i : Nat} (h : moB μ m s) (hi : i ≠ 30) : m 40 i = μ 40 i := by rw [h.2.2.1, pk_un hi]
theorem foF_congr {μ m : Nat → Nat → Int32} {r k : Nat} {t : Int32} (h5 : m 45 = μ 45) (h7 : m 47 = μ 47) : foF m r k t = foF μ r k t := by unfold foF; rw [h5, h7]
/-- right - rest is slack + the NAME's own least -/
theorem rest_eq {g lo hi : Nat → Int32} {n k : Nat} {right : Int32} (hk : k < n) : right - rsF' g lo hi k n = right - lsF g lo hi n + tmF (g k) (lo k) (hi k) := sub_rs (rs_ls n hk)
section KEEPS
variable {l : Launch} {E : zE} {ad : Nat → Nat} {al : Nat} {μ : Nat → Nat → Int32} {pa : Nat → Nat → Int64}
set_option maxRecDepth 100000 in
theorem m_Mo_factorAny {r k : Nat} {t : Int32} (hr : r ≤ 16) (hk : k < 8) : rMet l y_Mo_factorOf b_Mo_factorOf 5 (some .int) (zR 0) E [.ref (ad 40), .int (nI r), .int (nI k), .int t] ad al μ pa (.int (foF μ r k t)) := by
  rcases Nat.lt_or_ge r 16 with h | h
  · exact m_Mo_factorOf h hk
  · have e : r = 16 := by omega
    subst e
    exact m_Mo_factorOf_cost hk
set_option maxRecDepth 100000 in
set_option maxHeartbeats 4000000 in
theorem lpA_Mo_keeps {X : zX} {post : Option Value → (Nat → Nat) → zH → Prop} (C : zc X E b_Mo_keeps 9 "BranchTreesModel" (zR 1)) (Z : zr X E (some .boolean) 0 0 post) {r n : Nat} {t right sg : Int32} {f : Nat → Int32} (hr : r ≤ 16) (hn : n ≤ 8) (hN : μ 40 1 = nI n) (hg : ∀ k, k < n → foF μ r k t = sg * f k) (hf : fcR n (fun k => sg * f k)) (hb : bdR n (μ 62) (μ 63)) {h : zH} (hR : zRep E ad al μ pa h) (kx : zz X E 9 ad 0 0 40 [some (.ref (ad 40)), some (.int (nI r)), some (.int t), some (.int right), some (.int (lsF (fun k => sg * f k) (μ 62) (μ 63) n)), some (.int (nI n)), none, none, none] [] h) :
    ∀ (d i : Nat), n - i = d → i ≤ n → zz X E 9 ad 0 0 6 [some (.ref (ad 40)), some (.int (nI r)), some (.int t), some (.int right), some (.int (lsF (fun k => sg * f k) (μ 62) (μ 63) i)), some (.int (nI i)), none, none, none] [] h := by
  intro d
  induction d with
  | zero =>
    intro i hk hin
    have e : i = n := by omega
    subst e
    refine zz_iload C d_Mo_keeps_6 rfl ?_
    refine zz_aload_n C d_Mo_keeps_8 rfl rfl ?_
    refine zz_get C d_Mo_keeps_9 zf_Mo_85 ((hR _).trans rfl) rfl ?_
    refine zz_icmp_ge (tgt := 40) C d_Mo_keeps_12 (by decide) (fun c_12 => ?_) (fun c_12 => ?_)
    · exact kx
    · exact absurd (by rw [hN]; exact nI_le (Nat.le_refl _) (by omega)) c_12
  | succ d ih =>
    intro i hk hin
    have hlt : i < n := by omega
    have hq : leF (foF μ r i t) (μ 62 i) (μ 63 i) = tmF (sg * f i) (μ 62 i) (μ 63 i) := by
      rw [hg i hlt]; exact leF_tm (hf i hlt).1 (hf i hlt).2 (hb i hlt).1 (hb i hlt).2.1 (hb i hlt).2.2
    refine zz_iload C d_Mo_keeps_6 rfl ?_
    refine zz_aload_n C d_Mo_keeps_8 rfl rfl ?_
    refine zz_get C d_Mo_keeps_9 zf_Mo_85 ((hR _).trans rfl) rfl ?_
    refine zz_icmp_ge (tgt := 40) C d_Mo_keeps_12 (by decide) (fun c_12 => ?_) (fun c_12 => ?_)
    · exact absurd (by rw [hN] at c_12; exact c_12) (nI_ge hlt (by omega))
    · refine zz_iload C d_Mo_keeps_15 rfl ?_
      refine zz_aload_n C d_Mo_keeps_17 rfl rfl ?_
      refine zz_aload_n C d_Mo_keeps_18 rfl rfl ?_
      refine zz_iload_n C d_Mo_keeps_19 rfl rfl ?_
      refine zz_iload C d_Mo_keeps_20 rfl ?_
      refine zz_iload_n C d_Mo_keeps_22 rfl rfl ?_
      refine zz_callVr (e := 0) C hR d_Mo_keeps_23 mk_Mo_139 zy_Mo_factorOf (m_Mo_factorAny hr (by omega)) ⟨by decide, by decide⟩ ⟨Nat.zero_le _, Nat.zero_le _⟩ rfl rfl rfl rfl (Nat.le_of_ble_eq_true rfl) ?_
      refine zz_iload C d_Mo_keeps_26 rfl ?_
      refine zz_callVr (e := 0) C hR d_Mo_keeps_28 mk_Mo_143 zy_Mo_leastOf (m_Mo_leastOf (by omega)) ⟨by decide, by decide⟩ ⟨Nat.zero_le _, Nat.zero_le _⟩ rfl rfl rfl rfl (Nat.le_of_ble_eq_true rfl) ?_
      rw [hq]
      refine zz_iadd C d_Mo_keeps_31 ?_
      refine zz_istore C d_Mo_keeps_32 (by decide) rfl ?_
      refine zz_iinc C d_Mo_keeps_34 rfl (nI_inc _) (by decide) rfl ?_
      refine zz_goto (tgt := 6) C d_Mo_keeps_37 (by decide) ?_
      exact ih (i + 1) (by omega) hlt
set_option maxRecDepth 100000 in
set_option maxHeartbeats 4000000 in
theorem lpC_Mo_keeps {X : zX} {post : Option Value → (Nat → Nat) → zH → Prop} (C : zc X E b_Mo_keeps 9 "BranchTreesModel" (zR 1)) (Z : zr X E (some .boolean) 0 0 post) {r n k : Nat} {t right sg : Int32} {f : Nat → Int32} (hr : r ≤ 16) (hn : n ≤ 8) {m : Nat → Nat → Int32} (hN : m 40 1 = nI n) (hg : ∀ k, k < n → foF m r k t = sg * f k) (hf : fcR n (fun k => sg * f k)) (hk : k < n) {ls : Int32} (hb : bdR n (m 62) (m 63)) {h : zH} (hR : zRep E ad al m pa h) (kx : zz X E 9 ad 0 0 121 [some (.ref (ad 40)), some (.int (nI r)), some (.int t), some (.int right), some (.int (ls)), some (.int (nI k)), some (.int (sg * f k)), some (.int (rsF' (fun k => sg * f k) (m 62) (m 63) k n)), some (.int (nI n))] [] h) :
    ∀ (d i : Nat), n - i = d → i ≤ n → zz X E 9 ad 0 0 76 [some (.ref (ad 40)), some (.int (nI r)), some (.int t), some (.int right), some (.int (ls)), some (.int (nI k)), some (.int (sg * f k)), some (.int (rsF' (fun k => sg * f k) (m 62) (m 63) k i)), some (.int (nI i))] [] h := by
  intro d
  induction d with
  | zero =>
    intro i hd hin
    have e : i = n := by omega
    subst e
    refine zz_iload C d_Mo_keeps_76 rfl ?_
    refine zz_aload_n C d_Mo_keeps_78 rfl rfl ?_
    refine zz_get C d_Mo_keeps_79 zf_Mo_85 ((hR _).trans rfl) rfl ?_
    refine zz_icmp_ge (tgt := 121) C d_Mo_keeps_82 (by decide) (fun c_82 => ?_) (fun c_82 => ?_)
    · exact kx
    · exact absurd (by rw [hN]; exact nI_le (Nat.le_refl _) (by omega)) c_82
  | succ d ih =>
    intro i hd hin
    have hlt : i < n := by omega
    have K := ih (i + 1) (by omega) hlt
    simp only [rsF'] at K
    have hq : leF (foF m r i t) (m 62 i) (m 63 i) = tmF (sg * f i) (m 62 i) (m 63 i) := by
      rw [hg i hlt]; exact leF_tm (hf i hlt).1 (hf i hlt).2 (hb i hlt).1 (hb i hlt).2.1 (hb i hlt).2.2
    refine zz_iload C d_Mo_keeps_76 rfl ?_
    refine zz_aload_n C d_Mo_keeps_78 rfl rfl ?_
    refine zz_get C d_Mo_keeps_79 zf_Mo_85 ((hR _).trans rfl) rfl ?_
    refine zz_icmp_ge (tgt := 121) C d_Mo_keeps_82 (by decide) (fun c_82 => ?_) (fun c_82 => ?_)
    · exact absurd (by rw [hN] at c_82; exact c_82) (nI_ge hlt (by omega))
    · refine zz_iload C d_Mo_keeps_85 rfl ?_
      refine zz_iload C d_Mo_keeps_87 rfl ?_
      refine zz_iload C d_Mo_keeps_89 rfl ?_
      refine zz_icmp_ne (tgt := 98) C d_Mo_keeps_91 (by decide) (fun c_91 => ?_) (fun c_91 => ?_)
      · rw [if_neg (fun e => c_91 (by rw [e]))] at K
        refine zz_aload_n C d_Mo_keeps_98 rfl rfl ?_
        refine zz_aload_n C d_Mo_keeps_99 rfl rfl ?_
        refine zz_iload_n C d_Mo_keeps_100 rfl rfl ?_
        refine zz_iload C d_Mo_keeps_101 rfl ?_
        refine zz_iload_n C d_Mo_keeps_103 rfl rfl ?_
        refine zz_callVr (e := 0) C hR d_Mo_keeps_104 mk_Mo_139 zy_Mo_factorOf (m_Mo_factorAny hr (by omega)) ⟨by decide, by decide⟩ ⟨Nat.zero_le _, Nat.zero_le _⟩ rfl rfl rfl rfl (Nat.le_of_ble_eq_true rfl) ?_
        refine zz_iload C d_Mo_keeps_107 rfl ?_
        refine zz_callVr (e := 0) C hR d_Mo_keeps_109 mk_Mo_143 zy_Mo_leastOf (m_Mo_leastOf (by omega)) ⟨by decide, by decide⟩ ⟨Nat.zero_le _, Nat.zero_le _⟩ rfl rfl rfl rfl (Nat.le_of_ble_eq_true rfl) ?_
        rw [hq]
        refine zz_iadd C d_Mo_keeps_112 ?_
        refine zz_istore C d_Mo_keeps_113 (by decide) rfl ?_
        refine zz_iinc C d_Mo_keeps_115 rfl (nI_inc _) (by decide) rfl ?_
        refine zz_goto (tgt := 76) C d_Mo_keeps_118 (by decide) ?_
        exact K
      · rw [if_pos ((nI_eq (by omega) (by omega)).mp c_91)] at K
        refine zz_iconst (v := 0) C d_Mo_keeps_94 (by decide) ?_
        refine zz_goto (tgt := 112) C d_Mo_keeps_95 (by decide) ?_
        refine zz_iadd C d_Mo_keeps_112 ?_
        refine zz_istore C d_Mo_keeps_113 (by decide) rfl ?_
        refine zz_iinc C d_Mo_keeps_115 rfl (nI_inc _) (by decide) rfl ?_
        refine zz_goto (tgt := 76) C d_Mo_keeps_118 (by decide) ?_
        exact K
set_option maxRecDepth 100000 in
set_option maxHeartbeats 4000000 in
theorem lpH_Mo_keeps {X : zX} {post : Option Value → (Nat → Nat) → zH → Prop} (C : zc X E b_Mo_keeps 9 "BranchTreesModel" (zR 1)) (Z : zr X E (some .boolean) 0 0 post) {r k : Nat} {t right ls g rs sl : Int32} {w : Option Value} {s : zB} (hk : k < 8) (g1 : ¬ g ≤ 0) (g2 : g.toInt ≤ 20) (b1 : -50 ≤ (s.1 k).toInt) (s1 : 0 ≤ sl) (s2 : sl.toInt ≤ 100000) (hrr : right - rs = sl + g * s.1 k) (hly : (s.1 k).toInt ≤ (s.1 k + sl / g).toInt)
    (kx : ∀ (m : Nat → Nat → Int32) (h : zH), moB μ m (s.1, upd s.2.1 k (s.1 k + sl / g), 1) → zRep E ad al m pa h → zz X E 9 ad 0 0 203 [some (.ref (ad 40)), some (.int (nI r)), some (.int t), some (.int right), some (.int (ls)), some (.int (nI k)), some (.int (g)), some (.int (rs)), w] [] h) :
    ∀ (d : Nat) (x : Int32) (m : Nat → Nat → Int32), x.toInt = (s.1 k + sl / g).toInt + d → x.toInt ≤ 50 → moB μ m (s.1, upd s.2.1 k x, 1) → ∀ h, zRep E ad al m pa h → zz X E 9 ad 0 0 121 [some (.ref (ad 40)), some (.int (nI r)), some (.int t), some (.int right), some (.int (ls)), some (.int (nI k)), some (.int (g)), some (.int (rs)), w] [] h := by
  intro d
  induction d with
  | zero =>
    intro x m hx hx5 hm h hR
    have e : x = s.1 k + sl / g := Int32.toInt_inj.mp (by omega)
    have hmx : m 63 k = x := by rw [hm.2.1]; exact pk_us
    refine zz_iload C d_Mo_keeps_121 rfl ?_
    refine zz_if_le (tgt := 162) C d_Mo_keeps_123 (by decide) (fun c_123 => ?_) (fun c_123 => ?_)
    · exact absurd c_123 g1
    · refine zz_iload C d_Mo_keeps_126 rfl ?_
      refine zz_aload_n C d_Mo_keeps_128 rfl rfl ?_
      refine zz_get C d_Mo_keeps_129 zf_Mo_82 ((hR _).trans rfl) rfl ?_
      refine zz_iload C d_Mo_keeps_132 rfl ?_
      refine zz_ialdV (j := k) C hR (x) d_Mo_keeps_134 (fun _ _ => rfl) rfl hk (by decide) hmx ?_
      refine zz_imul C d_Mo_keeps_135 ?_
      refine zz_iload_n C d_Mo_keeps_136 rfl rfl ?_
      refine zz_iload C d_Mo_keeps_137 rfl ?_
      refine zz_isub C d_Mo_keeps_139 ?_
      refine zz_icmp_le (tgt := 162) C d_Mo_keeps_140 (by decide) (fun c_140 => ?_) (fun c_140 => ?_)
      · refine zz_iload C d_Mo_keeps_162 rfl ?_
        refine zz_if_ge (tgt := 203) C d_Mo_keeps_164 (by decide) (fun c_164 => ?_) (fun c_164 => ?_)
        · exact kx m h (e ▸ hm) hR
        · exact absurd (nge_of_nle g1) c_164
      · exact absurd (by rw [hrr]; exact (M1 g1 g2 b1 (by omega) hx5 s1 s2).1.mpr (by rw [e]; exact Int32.le_refl _)) c_140
  | succ d ih =>
    intro x m hx hx5 hm h hR
    have hmx : m 63 k = x := by rw [hm.2.1]; exact pk_us
    have hx1 : (x - 1).toInt = x.toInt - 1 := by
      rw [tI_sub (by rw [show (1 : Int32).toInt = 1 by decide]; omega) (by rw [show (1 : Int32).toInt = 1 by decide]; omega)]; rfl
    have K := fun m q => ih (x - 1) m (by omega) (by omega) q
    refine zz_iload C d_Mo_keeps_121 rfl ?_
    refine zz_if_le (tgt := 162) C d_Mo_keeps_123 (by decide) (fun c_123 => ?_) (fun c_123 => ?_)
    · exact absurd c_123 g1
    · refine zz_iload C d_Mo_keeps_126 rfl ?_
      refine zz_aload_n C d_Mo_keeps_128 rfl rfl ?_
      refine zz_get C d_Mo_keeps_129 zf_Mo_82 ((hR _).trans rfl) rfl ?_
      refine zz_iload C d_Mo_keeps_132 rfl ?_
      refine zz_ialdV (j := k) C hR (x) d_Mo_keeps_134 (fun _ _ => rfl) rfl hk (by decide) hmx ?_
      refine zz_imul C d_Mo_keeps_135 ?_
      refine zz_iload_n C d_Mo_keeps_136 rfl rfl ?_
      refine zz_iload C d_Mo_keeps_137 rfl ?_
      refine zz_isub C d_Mo_keeps_139 ?_
      refine zz_icmp_le (tgt := 162) C d_Mo_keeps_140 (by decide) (fun c_140 => ?_) (fun c_140 => ?_)
      · exact absurd ((M1 g1 g2 b1 (by omega) hx5 s1 s2).1.mp (by rw [hrr] at c_140; exact c_140)) (fun q => by have := i32_le q; omega)
      · refine zz_aload_n C d_Mo_keeps_143 rfl rfl ?_
        refine zz_get C d_Mo_keeps_144 zf_Mo_82 ((hR _).trans rfl) rfl ?_
        refine zz_iload C d_Mo_keeps_147 rfl ?_
        refine zz_dup2 C d_Mo_keeps_149 rfl rfl ?_
        refine zz_ialdV (j := k) C hR (x) d_Mo_keeps_150 (fun _ _ => rfl) rfl hk (by decide) hmx ?_
        refine zz_iconst (v := 1) C d_Mo_keeps_151 (by decide) ?_
        refine zz_isub C d_Mo_keeps_152 ?_
        refine zz_iastR (j := k) C hR d_Mo_keeps_153 (fun _ _ => rfl) rfl hk (by decide) (fun h hR => ?_)
        refine zz_aload_n C d_Mo_keeps_154 rfl rfl ?_
        refine zz_iconst (v := 1) C d_Mo_keeps_155 (by decide) ?_
        refine zz_putI C hR d_Mo_keeps_156 zp_Mo_147 rfl rfl rfl (Nat.le_of_ble_eq_true rfl) rfl (fun h hR => ?_)
        refine zz_goto (tgt := 121) C d_Mo_keeps_159 (by decide) ?_
        have hm2 := hm.hi (i := k) (v := x - 1)
        simp only [upd_uu] at hm2
        exact K _ hm2 h hR
set_option maxRecDepth 100000 in
set_option maxHeartbeats 4000000 in
theorem lpL_Mo_keeps {X : zX} {post : Option Value → (Nat → Nat) → zH → Prop} (C : zc X E b_Mo_keeps 9 "BranchTreesModel" (zR 1)) (Z : zr X E (some .boolean) 0 0 post) {r k : Nat} {t right ls g rs sl : Int32} {w : Option Value} {s : zB} (hk : k < 8) (g1 : ¬ 0 ≤ g) (g2 : -20 ≤ g.toInt) (b3 : (s.2.1 k).toInt ≤ 50) (s1 : 0 ≤ sl) (s2 : sl.toInt ≤ 100000) (hrr : right - rs = sl + g * s.2.1 k) (hyh : (s.2.1 k + sl / g).toInt ≤ (s.2.1 k).toInt)
    (kx : ∀ (m : Nat → Nat → Int32) (h : zH), moB μ m (upd s.1 k (s.2.1 k + sl / g), s.2.1, 1) → zRep E ad al m pa h → zz X E 9 ad 0 0 203 [some (.ref (ad 40)), some (.int (nI r)), some (.int t), some (.int right), some (.int (ls)), some (.int (nI k)), some (.int (g)), some (.int (rs)), w] [] h) :
    ∀ (d : Nat) (x : Int32) (m : Nat → Nat → Int32), x.toInt + d = (s.2.1 k + sl / g).toInt → -50 ≤ x.toInt → moB μ m (upd s.1 k x, s.2.1, 1) → ∀ h, zRep E ad al m pa h → zz X E 9 ad 0 0 162 [some (.ref (ad 40)), some (.int (nI r)), some (.int t), some (.int right), some (.int (ls)), some (.int (nI k)), some (.int (g)), some (.int (rs)), w] [] h := by
  intro d
  induction d with
  | zero =>
    intro x m hx hx5 hm h hR
    have e : x = s.2.1 k + sl / g := Int32.toInt_inj.mp (by omega)
    have hmx : m 62 k = x := by rw [hm.1]; exact pk_us
    refine zz_iload C d_Mo_keeps_162 rfl ?_
    refine zz_if_ge (tgt := 203) C d_Mo_keeps_164 (by decide) (fun c_164 => ?_) (fun c_164 => ?_)
    · exact absurd c_164 g1
    · refine zz_iload C d_Mo_keeps_167 rfl ?_
      refine zz_aload_n C d_Mo_keeps_169 rfl rfl ?_
      refine zz_get C d_Mo_keeps_170 zf_Mo_79 ((hR _).trans rfl) rfl ?_
      refine zz_iload C d_Mo_keeps_173 rfl ?_
      refine zz_ialdV (j := k) C hR (x) d_Mo_keeps_175 (fun _ _ => rfl) rfl hk (by decide) hmx ?_
      refine zz_imul C d_Mo_keeps_176 ?_
      refine zz_iload_n C d_Mo_keeps_177 rfl rfl ?_
      refine zz_iload C d_Mo_keeps_178 rfl ?_
      refine zz_isub C d_Mo_keeps_180 ?_
      refine zz_icmp_le (tgt := 203) C d_Mo_keeps_181 (by decide) (fun c_181 => ?_) (fun c_181 => ?_)
      · exact kx m h (e ▸ hm) hR
      · exact absurd (by rw [hrr]; exact (M2 g1 g2 hx5 (by have := hyh; omega) b3 s1 s2).1.mpr (by rw [e]; exact Int32.le_refl _)) c_181
  | succ d ih =>
    intro x m hx hx5 hm h hR
    have hmx : m 62 k = x := by rw [hm.1]; exact pk_us
    have hx1 : (x + 1).toInt = x.toInt + 1 := by
      have := hyh
      rw [tI_add (by rw [show (1 : Int32).toInt = 1 by decide]; omega) (by rw [show (1 : Int32).toInt = 1 by decide]; omega)]; rfl
    have K := fun m q => ih (x + 1) m (by omega) (by omega) q
    refine zz_iload C d_Mo_keeps_162 rfl ?_
    refine zz_if_ge (tgt := 203) C d_Mo_keeps_164 (by decide) (fun c_164 => ?_) (fun c_164 => ?_)
    · exact absurd c_164 g1
    · refine zz_iload C d_Mo_keeps_167 rfl ?_
      refine zz_aload_n C d_Mo_keeps_169 rfl rfl ?_
      refine zz_get C d_Mo_keeps_170 zf_Mo_79 ((hR _).trans rfl) rfl ?_
      refine zz_iload C d_Mo_keeps_173 rfl ?_
      refine zz_ialdV (j := k) C hR (x) d_Mo_keeps_175 (fun _ _ => rfl) rfl hk (by decide) hmx ?_
      refine zz_imul C d_Mo_keeps_176 ?_
      refine zz_iload_n C d_Mo_keeps_177 rfl rfl ?_
      refine zz_iload C d_Mo_keeps_178 rfl ?_
      refine zz_isub C d_Mo_keeps_180 ?_
      refine zz_icmp_le (tgt := 203) C d_Mo_keeps_181 (by decide) (fun c_181 => ?_) (fun c_181 => ?_)
      · exact absurd ((M2 g1 g2 hx5 (by have := hyh; omega) b3 s1 s2).1.mp (by rw [hrr] at c_181; exact c_181)) (fun q => by have := i32_le q; omega)
      · refine zz_aload_n C d_Mo_keeps_184 rfl rfl ?_
        refine zz_get C d_Mo_keeps_185 zf_Mo_79 ((hR _).trans rfl) rfl ?_
        refine zz_iload C d_Mo_keeps_188 rfl ?_
        refine zz_dup2 C d_Mo_keeps_190 rfl rfl ?_
        refine zz_ialdV (j := k) C hR (x) d_Mo_keeps_191 (fun _ _ => rfl) rfl hk (by decide) hmx ?_
        refine zz_iconst (v := 1) C d_Mo_keeps_192 (by decide) ?_
        refine zz_iadd C d_Mo_keeps_193 ?_
        refine zz_iastR (j := k) C hR d_Mo_keeps_194 (fun _ _ => rfl) rfl hk (by decide) (fun h hR => ?_)
        refine zz_aload_n C d_Mo_keeps_195 rfl rfl ?_
        refine zz_iconst (v := 1) C d_Mo_keeps_196 (by decide) ?_
        refine zz_putI C hR d_Mo_keeps_197 zp_Mo_147 rfl rfl rfl (Nat.le_of_ble_eq_true rfl) rfl (fun h hR => ?_)
        refine zz_goto (tgt := 162) C d_Mo_keeps_200 (by decide) ?_
        have hm2 := hm.lo (i := k) (v := x + 1)
        simp only [upd_uu] at hm2
        exact K _ hm2 h hR
set_option maxRecDepth 100000 in
set_option maxHeartbeats 4000000 in
theorem lpB_Mo_keeps {X : zX} {post : Option Value → (Nat → Nat) → zH → Prop} (C : zc X E b_Mo_keeps 9 "BranchTreesModel" (zR 1)) (Z : zr X E (some .boolean) 0 0 post) {r n : Nat} {t right sg : Int32} {f : Nat → Int32} (hr : r ≤ 16) (hn : n ≤ 8) (hN : μ 40 1 = nI n) (hg : ∀ k, k < n → foF μ r k t = sg * f k) (hf : fcR n (fun k => sg * f k)) {ls sl : Int32} {s0 : zB} (hb0 : bdR n s0.1 s0.2.1) (hls : lsF (fun k => sg * f k) s0.1 s0.2.1 n = ls) (hsl : right - ls = sl) (s1 : 0 ≤ sl) (s2 : sl.toInt ≤ 100000)
    (hpost : ∀ (m : Nat → Nat → Int32) (h : zH), moB μ m (clN f sg sl n s0) → zRep E ad al m pa h → post (some (.int 1)) ad h) :
    ∀ (d k : Nat) (s : zB) (m : Nat → Nat → Int32) (w6 w7 w8 : Option Value), n - k = d → k ≤ n → s = clN f sg sl k s0 → moB μ m s → ∀ h, zRep E ad al m pa h → zz X E 9 ad 0 0 51 [some (.ref (ad 40)), some (.int (nI r)), some (.int t), some (.int right), some (.int (ls)), some (.int (nI k)), w6, w7, w8] [] h := by
  intro d
  induction d with
  | zero =>
    intro k s m w6 w7 w8 hd hkn hs hm h hR
    have e : k = n := by omega
    subst e
    have hmN : m 40 1 = nI k := by rw [hm.f40 (by decide)]; exact hN
    refine zz_iload C d_Mo_keeps_51 rfl ?_
    refine zz_aload_n C d_Mo_keeps_53 rfl rfl ?_
    refine zz_get C d_Mo_keeps_54 zf_Mo_85 ((hR _).trans rfl) rfl ?_
    refine zz_icmp_ge (tgt := 228) C d_Mo_keeps_57 (by decide) (fun c_57 => ?_) (fun c_57 => ?_)
    · refine zz_iconst (v := 1) C d_Mo_keeps_228 (by decide) ?_
      refine zz_zret C Z d_Mo_keeps_229 (by first | rfl | decide | assumption) ?_
      exact hpost m h (hs ▸ hm) hR
    · exact absurd (by rw [hmN]; exact nI_le (Nat.le_refl _) (by omega)) c_57
  | succ d ih =>
    intro k s m w6 w7 w8 hd hkn hs hm h hR
    have hlt : k < n := by omega
    have hmN : m 40 1 = nI n := by rw [hm.f40 (by decide)]; exact hN
    have hmg : ∀ q, foF m r q t = foF μ r q t := fun q => foF_congr (hm.2.2.2 45 (by decide) (by decide) (by decide)) (hm.2.2.2 47 (by decide) (by decide) (by decide))
    obtain ⟨hbs, hts⟩ := clN_ok (sl := sl) (s := s0) hf hb0 s1 s2 k (by omega)
    rw [← hs] at hbs hts
    obtain ⟨b1, b2, b3⟩ := hbs k hlt
    obtain ⟨g1, g2⟩ := hf k hlt
    have hlss : lsF (fun k => sg * f k) s.1 s.2.1 n = ls := (lsF_congr n (fun q hq => hts q hq)).trans hls
    have hrr : right - rsF' (fun k => sg * f k) (m 62) (m 63) k n = sl + tmF (sg * f k) (s.1 k) (s.2.1 k) := by
      rw [hm.1, hm.2.1, rest_eq hlt, hlss, hsl]
    obtain ⟨hbn, -⟩ := clS_ok (j := k) hlt hf hbs s1 s2
    have K203 : ∀ (w : Option Value) (m' : Nat → Nat → Int32) (h' : zH), moB μ m' (clS f sg sl k s) → zRep E ad al m' pa h' → zz X E 9 ad 0 0 203 [some (.ref (ad 40)), some (.int (nI r)), some (.int t), some (.int right), some (.int (ls)), some (.int (nI k)), some (.int (sg * f k)), some (.int (rsF' (fun k => sg * f k) (m 62) (m 63) k n)), w] [] h' := by
      intro w m' h hm' hR
      have hmx : m' 62 k = (clS f sg sl k s).1 k := by rw [hm'.1]
      have hmy : m' 63 k = (clS f sg sl k s).2.1 k := by rw [hm'.2.1]
      refine zz_aload_n C d_Mo_keeps_203 rfl rfl ?_
      refine zz_get C d_Mo_keeps_204 zf_Mo_79 ((hR _).trans rfl) rfl ?_
      refine zz_iload C d_Mo_keeps_207 rfl ?_
      refine zz_ialdV (j := k) C hR ((clS f sg sl k s).1 k) d_Mo_keeps_209 (fun _ _ => rfl) rfl (by omega) (by decide) hmx ?_
      refine zz_aload_n C d_Mo_keeps_210 rfl rfl ?_
      refine zz_get C d_Mo_keeps_211 zf_Mo_82 ((hR _).trans rfl) rfl ?_
      refine zz_iload C d_Mo_keeps_214 rfl ?_
      refine zz_ialdV (j := k) C hR ((clS f sg sl k s).2.1 k) d_Mo_keeps_216 (fun _ _ => rfl) rfl (by omega) (by decide) hmy ?_
      refine zz_icmp_le (tgt := 222) C d_Mo_keeps_217 (by decide) (fun c_217 => ?_) (fun c_217 => ?_)
      · refine zz_iinc C d_Mo_keeps_222 rfl (nI_inc _) (by decide) rfl ?_
        refine zz_goto (tgt := 51) C d_Mo_keeps_225 (by decide) ?_
        exact ih (k + 1) (clS f sg sl k s) m' _ _ _ (by omega) hlt (by rw [hs]; rfl) hm' h hR
      · exact absurd (Int32.le_iff_toInt_le.mpr (hbn k hlt).2.1) c_217
    have K121 : ∀ w : Option Value, zz X E 9 ad 0 0 121 [some (.ref (ad 40)), some (.int (nI r)), some (.int t), some (.int right), some (.int (ls)), some (.int (nI k)), some (.int (sg * f k)), some (.int (rsF' (fun k => sg * f k) (m 62) (m 63) k n)), w] [] h := by
      intro w
      by_cases c1 : sg * f k ≤ 0
      · have hrr : right - rsF' (fun k => sg * f k) (m 62) (m 63) k n = sl + (sg * f k) * s.2.1 k := by rw [hrr]; unfold tmF; rw [if_pos c1]
        generalize rsF' (fun k => sg * f k) (m 62) (m 63) k n = rs at hrr K203 ⊢
        by_cases c2 : 0 ≤ sg * f k
        · have e : clS f sg sl k s = s := by unfold clS; rw [if_pos c1, if_pos c2]
          rw [e] at K203
          refine zz_iload C d_Mo_keeps_121 rfl ?_
          refine zz_if_le (tgt := 162) C d_Mo_keeps_123 (by decide) (fun c_123 => ?_) (fun c_123 => ?_)
          · refine zz_iload C d_Mo_keeps_162 rfl ?_
            refine zz_if_ge (tgt := 203) C d_Mo_keeps_164 (by decide) (fun c_164 => ?_) (fun c_164 => ?_)
            · exact K203 _ m h hm hR
            · exact absurd c2 c_164
          · exact absurd c1 c_123
        · obtain ⟨-, hyh⟩ := M2 c2 g1 b1 b2 b3 s1 s2
          have hmx : m 62 k = s.1 k := by rw [hm.1]
          by_cases c3 : s.2.1 k + sl / (sg * f k) ≤ s.1 k
          · have e : clS f sg sl k s = s := by unfold clS; rw [if_pos c1, if_neg c2, if_pos c3]
            rw [e] at K203
            refine zz_iload C d_Mo_keeps_121 rfl ?_
            refine zz_if_le (tgt := 162) C d_Mo_keeps_123 (by decide) (fun c_123 => ?_) (fun c_123 => ?_)
            · refine zz_iload C d_Mo_keeps_162 rfl ?_
              refine zz_if_ge (tgt := 203) C d_Mo_keeps_164 (by decide) (fun c_164 => ?_) (fun c_164 => ?_)
              · exact absurd c_164 c2
              · refine zz_iload C d_Mo_keeps_167 rfl ?_
                refine zz_aload_n C d_Mo_keeps_169 rfl rfl ?_
                refine zz_get C d_Mo_keeps_170 zf_Mo_79 ((hR _).trans rfl) rfl ?_
                refine zz_iload C d_Mo_keeps_173 rfl ?_
                refine zz_ialdV (j := k) C hR (s.1 k) d_Mo_keeps_175 (fun _ _ => rfl) rfl (by omega) (by decide) hmx ?_
                refine zz_imul C d_Mo_keeps_176 ?_
                refine zz_iload_n C d_Mo_keeps_177 rfl rfl ?_
                refine zz_iload C d_Mo_keeps_178 rfl ?_
                refine zz_isub C d_Mo_keeps_180 ?_
                refine zz_icmp_le (tgt := 203) C d_Mo_keeps_181 (by decide) (fun c_181 => ?_) (fun c_181 => ?_)
                · exact K203 _ m h hm hR
                · exact absurd (by rw [hrr]; exact (M2 c2 g1 b1 b2 b3 s1 s2).1.mpr c3) c_181
            · exact absurd c1 c_123
          · have e : clS f sg sl k s = (upd s.1 k (s.2.1 k + sl / (sg * f k)), s.2.1, 1) := by unfold clS; rw [if_pos c1, if_neg c2, if_neg c3]
            rw [e] at K203
            have c3' := i32_tr c3
            have hx1 : (s.1 k + 1).toInt = (s.1 k).toInt + 1 := by
              rw [tI_add (by rw [show (1 : Int32).toInt = 1 by decide]; omega) (by rw [show (1 : Int32).toInt = 1 by decide]; omega)]; rfl
            refine zz_iload C d_Mo_keeps_121 rfl ?_
            refine zz_if_le (tgt := 162) C d_Mo_keeps_123 (by decide) (fun c_123 => ?_) (fun c_123 => ?_)
            refine zz_iload C d_Mo_keeps_162 rfl ?_
            refine zz_if_ge (tgt := 203) C d_Mo_keeps_164 (by decide) (fun c_164 => ?_) (fun c_164 => ?_)
            · exact absurd c_164 c2
            · refine zz_iload C d_Mo_keeps_167 rfl ?_
              refine zz_aload_n C d_Mo_keeps_169 rfl rfl ?_
              refine zz_get C d_Mo_keeps_170 zf_Mo_79 ((hR _).trans rfl) rfl ?_
              refine zz_iload C d_Mo_keeps_173 rfl ?_
              refine zz_ialdV (j := k) C hR (s.1 k) d_Mo_keeps_175 (fun _ _ => rfl) rfl (by omega) (by decide) hmx ?_
              refine zz_imul C d_Mo_keeps_176 ?_
              refine zz_iload_n C d_Mo_keeps_177 rfl rfl ?_
              refine zz_iload C d_Mo_keeps_178 rfl ?_
              refine zz_isub C d_Mo_keeps_180 ?_
              refine zz_icmp_le (tgt := 203) C d_Mo_keeps_181 (by decide) (fun c_181 => ?_) (fun c_181 => ?_)
              · exact absurd ((M2 c2 g1 b1 b2 b3 s1 s2).1.mp (by rw [hrr] at c_181; exact c_181)) c3
              · refine zz_aload_n C d_Mo_keeps_184 rfl rfl ?_
                refine zz_get C d_Mo_keeps_185 zf_Mo_79 ((hR _).trans rfl) rfl ?_
                refine zz_iload C d_Mo_keeps_188 rfl ?_
                refine zz_dup2 C d_Mo_keeps_190 rfl rfl ?_
                refine zz_ialdV (j := k) C hR (s.1 k) d_Mo_keeps_191 (fun _ _ => rfl) rfl (by omega) (by decide) hmx ?_
                refine zz_iconst (v := 1) C d_Mo_keeps_192 (by decide) ?_
                refine zz_iadd C d_Mo_keeps_193 ?_
                refine zz_iastR (j := k) C hR d_Mo_keeps_194 (fun _ _ => rfl) rfl (by omega) (by decide) (fun h hR => ?_)
                refine zz_aload_n C d_Mo_keeps_195 rfl rfl ?_
                refine zz_iconst (v := 1) C d_Mo_keeps_196 (by decide) ?_
                refine zz_putI C hR d_Mo_keeps_197 zp_Mo_147 rfl rfl rfl (Nat.le_of_ble_eq_true rfl) rfl (fun h hR => ?_)
                refine zz_goto (tgt := 162) C d_Mo_keeps_200 (by decide) ?_
                exact lpL_Mo_keeps C Z (s := s) (by omega) c2 g1 b3 s1 s2 hrr hyh (fun m h hm hR => K203 _ m h hm hR) ((s.2.1 k + sl / (sg * f k)).toInt - (s.1 k).toInt - 1).toNat (s.1 k + 1) _ (by omega) (by omega) hm.lo h hR
            · exact absurd c1 c_123
      · have hrr : right - rsF' (fun k => sg * f k) (m 62) (m 63) k n = sl + (sg * f k) * s.1 k := by rw [hrr]; unfold tmF; rw [if_neg c1]
        generalize rsF' (fun k => sg * f k) (m 62) (m 63) k n = rs at hrr K203 ⊢
        obtain ⟨-, hly⟩ := M1 c1 g2 b1 b2 b3 s1 s2
        have hmx : m 63 k = s.2.1 k := by rw [hm.2.1]
        have c2 := nge_of_nle c1
        by_cases c3 : s.2.1 k ≤ s.1 k + sl / (sg * f k)
        · have e : clS f sg sl k s = s := by unfold clS; rw [if_neg c1, if_pos c3]
          rw [e] at K203
          refine zz_iload C d_Mo_keeps_121 rfl ?_
          refine zz_if_le (tgt := 162) C d_Mo_keeps_123 (by decide) (fun c_123 => ?_) (fun c_123 => ?_)
          · exact absurd c_123 c1
          · refine zz_iload C d_Mo_keeps_126 rfl ?_
            refine zz_aload_n C d_Mo_keeps_128 rfl rfl ?_
            refine zz_get C d_Mo_keeps_129 zf_Mo_82 ((hR _).trans rfl) rfl ?_
            refine zz_iload C d_Mo_keeps_132 rfl ?_
            refine zz_ialdV (j := k) C hR (s.2.1 k) d_Mo_keeps_134 (fun _ _ => rfl) rfl (by omega) (by decide) hmx ?_
            refine zz_imul C d_Mo_keeps_135 ?_
            refine zz_iload_n C d_Mo_keeps_136 rfl rfl ?_
            refine zz_iload C d_Mo_keeps_137 rfl ?_
            refine zz_isub C d_Mo_keeps_139 ?_
            refine zz_icmp_le (tgt := 162) C d_Mo_keeps_140 (by decide) (fun c_140 => ?_) (fun c_140 => ?_)
            · refine zz_iload C d_Mo_keeps_162 rfl ?_
              refine zz_if_ge (tgt := 203) C d_Mo_keeps_164 (by decide) (fun c_164 => ?_) (fun c_164 => ?_)
              · exact K203 _ m h hm hR
              · exact absurd c2 c_164
            · exact absurd (by rw [hrr]; exact (M1 c1 g2 b1 b2 b3 s1 s2).1.mpr c3) c_140
        · have e : clS f sg sl k s = (s.1, upd s.2.1 k (s.1 k + sl / (sg * f k)), 1) := by unfold clS; rw [if_neg c1, if_neg c3]
          rw [e] at K203
          have c3' := i32_tr c3
          have hx1 : (s.2.1 k - 1).toInt = (s.2.1 k).toInt - 1 := by
            rw [tI_sub (by rw [show (1 : Int32).toInt = 1 by decide]; omega) (by rw [show (1 : Int32).toInt = 1 by decide]; omega)]; rfl
          refine zz_iload C d_Mo_keeps_121 rfl ?_
          refine zz_if_le (tgt := 162) C d_Mo_keeps_123 (by decide) (fun c_123 => ?_) (fun c_123 => ?_)
          · exact absurd c_123 c1
          · refine zz_iload C d_Mo_keeps_126 rfl ?_
            refine zz_aload_n C d_Mo_keeps_128 rfl rfl ?_
            refine zz_get C d_Mo_keeps_129 zf_Mo_82 ((hR _).trans rfl) rfl ?_
            refine zz_iload C d_Mo_keeps_132 rfl ?_
            refine zz_ialdV (j := k) C hR (s.2.1 k) d_Mo_keeps_134 (fun _ _ => rfl) rfl (by omega) (by decide) hmx ?_
            refine zz_imul C d_Mo_keeps_135 ?_
            refine zz_iload_n C d_Mo_keeps_136 rfl rfl ?_
            refine zz_iload C d_Mo_keeps_137 rfl ?_
            refine zz_isub C d_Mo_keeps_139 ?_
            refine zz_icmp_le (tgt := 162) C d_Mo_keeps_140 (by decide) (fun c_140 => ?_) (fun c_140 => ?_)
            · exact absurd ((M1 c1 g2 b1 b2 b3 s1 s2).1.mp (by rw [hrr] at c_140; exact c_140)) c3
            · refine zz_aload_n C d_Mo_keeps_143 rfl rfl ?_
              refine zz_get C d_Mo_keeps_144 zf_Mo_82 ((hR _).trans rfl) rfl ?_
              refine zz_iload C d_Mo_keeps_147 rfl ?_
              refine zz_dup2 C d_Mo_keeps_149 rfl rfl ?_
              refine zz_ialdV (j := k) C hR (s.2.1 k) d_Mo_keeps_150 (fun _ _ => rfl) rfl (by omega) (by decide) hmx ?_
              refine zz_iconst (v := 1) C d_Mo_keeps_151 (by decide) ?_
              refine zz_isub C d_Mo_keeps_152 ?_
              refine zz_iastR (j := k) C hR d_Mo_keeps_153 (fun _ _ => rfl) rfl (by omega) (by decide) (fun h hR => ?_)
              refine zz_aload_n C d_Mo_keeps_154 rfl rfl ?_
              refine zz_iconst (v := 1) C d_Mo_keeps_155 (by decide) ?_
              refine zz_putI C hR d_Mo_keeps_156 zp_Mo_147 rfl rfl rfl (Nat.le_of_ble_eq_true rfl) rfl (fun h hR => ?_)
              refine zz_goto (tgt := 121) C d_Mo_keeps_159 (by decide) ?_
              exact lpH_Mo_keeps C Z (s := s) (by omega) c1 g2 b1 s1 s2 hrr hly (fun m h hm hR => K203 _ m h hm hR) ((s.2.1 k).toInt - (s.1 k + sl / (sg * f k)).toInt - 1).toNat (s.2.1 k - 1) _ (by omega) (by omega) hm.hi h hR
    refine zz_iload C d_Mo_keeps_51 rfl ?_
    refine zz_aload_n C d_Mo_keeps_53 rfl rfl ?_
    refine zz_get C d_Mo_keeps_54 zf_Mo_85 ((hR _).trans rfl) rfl ?_
    refine zz_icmp_ge (tgt := 228) C d_Mo_keeps_57 (by decide) (fun c_57 => ?_) (fun c_57 => ?_)
    · exact absurd (by rw [hmN] at c_57; exact c_57) (nI_ge hlt (by omega))
    · refine zz_aload_n C d_Mo_keeps_60 rfl rfl ?_
      refine zz_iload_n C d_Mo_keeps_61 rfl rfl ?_
      refine zz_iload C d_Mo_keeps_62 rfl ?_
      refine zz_iload_n C d_Mo_keeps_64 rfl rfl ?_
      refine zz_callVr (e := 0) C hR d_Mo_keeps_65 mk_Mo_139 zy_Mo_factorOf (m_Mo_factorAny hr (by omega)) ⟨by decide, by decide⟩ ⟨Nat.zero_le _, Nat.zero_le _⟩ rfl rfl rfl rfl (Nat.le_of_ble_eq_true rfl) ?_
      rw [hmg k, hg k hlt]
      refine zz_istore C d_Mo_keeps_68 (by decide) rfl ?_
      refine zz_iconst (v := 0) C d_Mo_keeps_70 (by decide) ?_
      refine zz_istore C d_Mo_keeps_71 (by decide) rfl ?_
      refine zz_iconst (v := 0) C d_Mo_keeps_73 (by decide) ?_
      refine zz_istore C d_Mo_keeps_74 (by decide) rfl ?_
      exact lpC_Mo_keeps C Z hr hn hmN (fun q hq => by rw [hmg q]; exact hg q hq) hf hlt (by rw [hm.1, hm.2.1]; exact hbs) hR (K121 _) n 0 rfl (Nat.zero_le _)
set_option maxRecDepth 100000 in
set_option maxHeartbeats 4000000 in
theorem m_Mo_keeps {r n : Nat} {t right sg : Int32} {f : Nat → Int32} (hr : r ≤ 16) (hn : n ≤ 8) (hN : μ 40 1 = nI n) (hg : ∀ k, k < n → foF μ r k t = sg * f k) (hf : fcR n (fun k => sg * f k)) (hb : bdR n (μ 62) (μ 63)) (s2 : (right - lsF (fun k => sg * f k) (μ 62) (μ 63) n).toInt ≤ 100000) (hcmp : lsF (fun k => sg * f k) (μ 62) (μ 63) n ≤ right ↔ 0 ≤ right - lsF (fun k => sg * f k) (μ 62) (μ 63) n) : wMet l y_Mo_keeps b_Mo_keeps 9 (some .boolean) (zR 1) E [.ref (ad 40), .int (nI r), .int t, .int right] ad al μ pa (some (.int (if (closesF f sg right n (μ 62, μ 63, μ 40 30)).1 = 0 then 1 else 0))) (setM μ (closesF f sg right n (μ 62, μ 63, μ 40 30)).2) pa := by
  intro h hR
  refine zMet.of (L := [some (.ref (ad 40)), some (.int (nI r)), some (.int t), some (.int right), none, none, none, none, none]) (by decide +kernel) (Nat.le_of_ble_eq_true rfl) rfl 5 rfl fun X hl C Z => ?_
  refine zz_iconst (v := 0) C d_Mo_keeps_0 (by decide) ?_
  refine zz_istore C d_Mo_keeps_1 (by decide) rfl ?_
  refine zz_iconst (v := 0) C d_Mo_keeps_3 (by decide) ?_
  refine zz_istore C d_Mo_keeps_4 (by decide) rfl ?_
  have ebl : bl (μ 62) (μ 63) f sg n = lsF (fun k => sg * f k) (μ 62) (μ 63) n := bl_ls _ _ _ _ _
  refine lpA_Mo_keeps C Z hr hn hN hg hf hb hR ?_ n 0 rfl (Nat.zero_le _)
  refine zz_iload C d_Mo_keeps_40 rfl ?_
  refine zz_iload_n C d_Mo_keeps_42 rfl rfl ?_
  refine zz_icmp_le (tgt := 48) C d_Mo_keeps_43 (by decide) (fun c_43 => ?_) (fun c_43 => ?_)
  · have hq := hcmp.mp c_43
    refine zz_iconst (v := 0) C d_Mo_keeps_48 (by decide) ?_
    refine zz_istore C d_Mo_keeps_49 (by decide) rfl ?_
    refine lpB_Mo_keeps C Z hr hn hN hg hf (s0 := (μ 62, μ 63, μ 40 30)) hb rfl rfl hq s2 (fun m h hm hR => ⟨?_, rfl, ?_⟩) n 0 _ μ _ _ _ rfl (Nat.zero_le _) rfl moB.rf h hR
    · simp only [closesF, ebl, hq, if_true]
    · rw [hm.eq] at hR; simpa only [closesF, ebl, hq, if_true] using hR
  · have hq : ¬ 0 ≤ right - lsF (fun k => sg * f k) (μ 62) (μ 63) n := fun q => c_43 (hcmp.mpr q)
    refine zz_iconst (v := 0) C d_Mo_keeps_46 (by decide) ?_
    refine zz_zret C Z d_Mo_keeps_47 (by first | rfl | decide | assumption) ?_
    refine ⟨?_, rfl, ?_⟩
    · simp only [closesF, ebl, hq, if_false]; decide
    · simp only [closesF, ebl, hq, if_false]; exact hR.eq moB.rf.eq rfl
end KEEPS
