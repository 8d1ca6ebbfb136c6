/-! MODEL.newNode -/
def wr8 (f g : Nat → Int32) (sz i : Nat) : Nat → Int32 := fun x => if 8 * sz ≤ x ∧ x < 8 * sz + i then f (x - 8 * sz) else g x
theorem wr8_0 (f g : Nat → Int32) (sz : Nat) : wr8 f g sz 0 = g := by funext x; unfold wr8; rw [if_neg (by omega)]
theorem wr8_s (f g : Nat → Int32) (sz i : Nat) : upd (wr8 f g sz i) (8 * sz + i) (f i) = wr8 f g sz (i + 1) := by
  funext x
  by_cases e : x = 8 * sz + i
  · subst e; rw [pk_us]; unfold wr8; rw [if_pos (by omega)]; congr 1; omega
  · rw [pk_un e]; unfold wr8
    by_cases q : 8 * sz ≤ x ∧ x < 8 * sz + i
    · rw [if_pos q, if_pos (by omega)]
    · rw [if_neg q, if_neg (by omega)]
/-- the rows behind the narrowing of a new NODE -/
def nn1 (m : Nat → Nat → Int32) (sz : Nat) (T : Int32 × zB) : Nat → Nat → Int32 := va_up (va_up (setM m T.2) 58 (upd (m 58) sz T.1)) 57 (upd (m 57) sz (if T.1 = -2 then 0 else 2))
def nn2 (m : Nat → Nat → Int32) (sz : Nat) (T : Int32 × zB) (i : Nat) : Nat → Nat → Int32 := va_up (va_up (nn1 m sz T) 60 (wr8 T.2.1 (m 60) sz i)) 61 (wr8 T.2.2.1 (m 61) sz i)
theorem cutF_sc {μ : Nat → Nat → Int32} {a : Nat} {sd v : Int32} : sc μ (cutF μ 62 63 a sd v) := by
  refine ⟨fun k x y z => cutF_fr y z, fun i _ _ => ?_⟩
  rw [cutF_fr (by decide) (by decide)]
section MNEW
variable {l : Launch} {E : zE} {ad : Nat → Nat} {al : Nat} {μ : Nat → Nat → Int32} {pa : Nat → Nat → Int64}
set_option maxRecDepth 100000 in
set_option maxHeartbeats 4000000 in
theorem lp_Mo_newNode {X : zX} {post : Option Value → (Nat → Nat) → zH → Prop} (C : zc X E b_Mo_newNode 7 "BranchTreesModel" (zR 3)) (Z : zr X E (some .int) 0 0 post) {a1 a2 a3 a4 : Int32} {n sz : Nat} {T : Int32 × zB} (hn : n ≤ 8) (hN : μ 40 1 = nI n) (hsz : sz < 600) (hpost : ∀ h, zRep E ad al (nn2 μ sz T n) pa h → post (some (.int (nI sz))) ad h) :
    ∀ (d i : Nat), n - i = d → i ≤ n → ∀ h, zRep E ad al (nn2 μ sz T i) pa h → zz X E 7 ad 0 0 113 [some (.ref (ad 40)), some (.int a1), some (.int a2), some (.int a3), some (.int a4), some (.int (nI sz)), some (.int (nI i))] [] h := by
  intro d
  induction d with
  | zero =>
    intro i hd hin h hR
    have e : i = n := by omega
    subst e
    have hN' : nn2 μ sz T i 40 1 = nI i := hN
    refine zz_iload C d_Mo_newNode_113 rfl ?_
    refine zz_aload_n C d_Mo_newNode_115 rfl rfl ?_
    refine zz_getV C hR (nI i) _ d_Mo_newNode_116 zf_Mo_85 rfl rfl hN' ?_
    refine zz_icmp_ge (tgt := 168) C d_Mo_newNode_119 (by decide) (fun c_119 => ?_) (fun c_119 => ?_)
    · refine zz_iload C d_Mo_newNode_168 rfl ?_
      refine zz_iret C Z d_Mo_newNode_170 ?_
      exact hpost h hR
    · exact absurd (nI_le (Nat.le_refl _) (by omega)) c_119
  | succ d ih =>
    intro i hd hin h hR
    have hlt : i < n := by omega
    have hN' : nn2 μ sz T i 40 1 = nI n := hN
    have K := ih (i + 1) (by omega) hlt
    have e1 : nn2 μ sz T i 62 i = T.2.1 i := rfl
    have e2 : va_up (nn2 μ sz T i) 60 (upd (nn2 μ sz T i 60) (8 * sz + i) (T.2.1 i)) 63 i = T.2.2.1 i := rfl
    have e5 : va_up (va_up (nn2 μ sz T i) 60 (upd (nn2 μ sz T i 60) (8 * sz + i) (T.2.1 i))) 61 (upd (va_up (nn2 μ sz T i) 60 (upd (nn2 μ sz T i 60) (8 * sz + i) (T.2.1 i)) 61) (8 * sz + i) (T.2.2.1 i)) = nn2 μ sz T (i + 1) := by
      have h2 : nn2 μ sz T i 60 = wr8 T.2.1 (μ 60) sz i := rfl
      have h3 : va_up (nn2 μ sz T i) 60 (upd (nn2 μ sz T i 60) (8 * sz + i) (T.2.1 i)) 61 = wr8 T.2.2.1 (μ 61) sz i := rfl
      rw [h3, h2, wr8_s, wr8_s]
      unfold nn2
      rw [va_up_com (show (61 : Nat) ≠ 60 by decide), bx_uu, bx_uu]
    rw [← e5] at K
    refine zz_iload C d_Mo_newNode_113 rfl ?_
    refine zz_aload_n C d_Mo_newNode_115 rfl rfl ?_
    refine zz_getV C hR (nI n) _ d_Mo_newNode_116 zf_Mo_85 rfl rfl hN' ?_
    refine zz_icmp_ge (tgt := 168) C d_Mo_newNode_119 (by decide) (fun c_119 => ?_) (fun c_119 => ?_)
    · exact absurd c_119 (nI_ge hlt (by omega))
    · refine zz_aload_n C d_Mo_newNode_122 rfl rfl ?_
      refine zz_get C d_Mo_newNode_123 zf_Mo_73 ((hR _).trans rfl) rfl ?_
      refine zz_bipush (v := 8) C d_Mo_newNode_126 (by decide) ?_
      refine zz_iload C d_Mo_newNode_128 rfl ?_
      refine zz_imul C d_Mo_newNode_130 ?_
      refine zz_iload C d_Mo_newNode_131 rfl ?_
      refine zz_iadd C d_Mo_newNode_133 ?_
      refine zz_aload_n C d_Mo_newNode_134 rfl rfl ?_
      refine zz_get C d_Mo_newNode_135 zf_Mo_79 ((hR _).trans rfl) rfl ?_
      refine zz_iload C d_Mo_newNode_138 rfl ?_
      refine zz_ialdV (j := i) C hR (T.2.1 i) d_Mo_newNode_140 (fun _ _ => rfl) rfl (by omega) (by decide) e1 ?_
      refine zz_iastR (j := 8 * sz + i) C hR d_Mo_newNode_141 (fun _ _ => rfl) (ix8 sz i) (by omega) (by decide) (fun h hR => ?_)
      refine zz_aload_n C d_Mo_newNode_142 rfl rfl ?_
      refine zz_get C d_Mo_newNode_143 zf_Mo_76 ((hR _).trans rfl) rfl ?_
      refine zz_bipush (v := 8) C d_Mo_newNode_146 (by decide) ?_
      refine zz_iload C d_Mo_newNode_148 rfl ?_
      refine zz_imul C d_Mo_newNode_150 ?_
      refine zz_iload C d_Mo_newNode_151 rfl ?_
      refine zz_iadd C d_Mo_newNode_153 ?_
      refine zz_aload_n C d_Mo_newNode_154 rfl rfl ?_
      refine zz_get C d_Mo_newNode_155 zf_Mo_82 ((hR _).trans rfl) rfl ?_
      refine zz_iload C d_Mo_newNode_158 rfl ?_
      refine zz_ialdV (j := i) C hR (T.2.2.1 i) d_Mo_newNode_160 (fun _ _ => rfl) rfl (by omega) (by decide) e2 ?_
      refine zz_iastR (j := 8 * sz + i) C hR d_Mo_newNode_161 (fun _ _ => rfl) (ix8 sz i) (by omega) (by decide) (fun h hR => ?_)
      refine zz_iinc C d_Mo_newNode_162 rfl (nI_inc _) (by decide) rfl ?_
      refine zz_goto (tgt := 113) C d_Mo_newNode_165 (by decide) ?_
      exact K h hR
set_option maxRecDepth 100000 in
set_option maxHeartbeats 4000000 in
theorem tl_Mo_newNode {X : zX} {post : Option Value → (Nat → Nat) → zH → Prop} (C : zc X E b_Mo_newNode 7 "BranchTreesModel" (zR 3)) (Z : zr X E (some .int) 0 0 post) {V : Nat → Nat → Int32} {n rc : Nat} (hV : vR n rc V) (hP : mP n rc V μ) (hS : sR rc V) (hB : mBst V μ) {a1 a2 a3 a4 : Int32} {sz : Nat} {w : Option Value} (hsz : sz < 600) (hb : bdR n (μ 62) (μ 63)) (hpost : ∀ h, zRep E ad al (nn2 μ sz (nwF V n rc 1000 (μ 62, μ 63, 1)) n) pa h → post (some (.int (nI sz))) ad h) : ∀ h, zRep E ad al μ pa h → zz X E 7 ad 0 0 75 [some (.ref (ad 40)), some (.int a1), some (.int a2), some (.int a3), some (.int a4), some (.int (nI sz)), w] [] h := by
  intro h hR
  generalize hT : nwF V n rc 1000 (μ 62, μ 63, 1) = T at hpost
  have e1 : va_up (setM μ T.2) 58 (upd (setM μ T.2 58) sz T.1) 58 sz = T.1 := by rw [va_up_self, pk_us]
  refine zz_aload_n C d_Mo_newNode_75 rfl rfl ?_
  refine zz_get C d_Mo_newNode_76 zf_Mo_67 ((hR _).trans rfl) rfl ?_
  refine zz_iload C d_Mo_newNode_79 rfl ?_
  refine zz_aload_n C d_Mo_newNode_81 rfl rfl ?_
  refine zz_callVw (e := 2) C hR d_Mo_newNode_82 mk_Mo_162 zy_Mo_narrow (m_Mo_narrow hV hP hS hB hb) ⟨by decide, by decide⟩ ⟨Nat.zero_le _, Nat.zero_le _⟩ rfl rfl rfl rfl (Nat.le_of_ble_eq_true rfl) (fun h hR => ?_)
  rw [hT] at hR
  rw [hT]
  refine zz_iastR (j := sz) C hR d_Mo_newNode_85 (fun _ _ => rfl) rfl hsz (by decide) (fun h hR => ?_)
  refine zz_aload_n C d_Mo_newNode_86 rfl rfl ?_
  refine zz_get C d_Mo_newNode_87 zf_Mo_64 ((hR _).trans rfl) rfl ?_
  refine zz_iload C d_Mo_newNode_90 rfl ?_
  refine zz_aload_n C d_Mo_newNode_92 rfl rfl ?_
  refine zz_get C d_Mo_newNode_93 zf_Mo_67 ((hR _).trans rfl) rfl ?_
  refine zz_iload C d_Mo_newNode_96 rfl ?_
  refine zz_ialdV (j := sz) C hR (T.1) d_Mo_newNode_98 (fun _ _ => rfl) rfl hsz (by decide) e1 ?_
  refine zz_bipush (v := -2) C d_Mo_newNode_99 (by decide) ?_
  refine zz_icmp_ne (tgt := 108) C d_Mo_newNode_101 (by decide) (fun c_101 => ?_) (fun c_101 => ?_)
  · refine zz_iconst (v := 2) C d_Mo_newNode_108 (by decide) ?_
    refine zz_iastR (j := sz) C hR d_Mo_newNode_109 (fun _ _ => rfl) rfl hsz (by decide) (fun h hR => ?_)
    refine zz_iconst (v := 0) C d_Mo_newNode_110 (by decide) ?_
    refine zz_istore C d_Mo_newNode_111 (by decide) rfl ?_
    have hR2 : zRep E ad al (nn1 μ sz T) pa h := by
      refine hR.eq ?_ rfl
      unfold nn1
      simp only [c_101, if_true, if_false]
      rfl
    exact lp_Mo_newNode (μ := μ) C Z hV.1 hP.1 hsz hpost n 0 rfl (Nat.zero_le _) h (hR2.eq (by unfold nn2; rw [wr8_0, wr8_0]; exact ((congrArg (fun q => va_up q 61 (μ 61)) (va_up_id (nn1 μ sz T) 60)).trans (va_up_id (nn1 μ sz T) 61)).symm) rfl)
  · refine zz_iconst (v := 0) C d_Mo_newNode_104 (by decide) ?_
    refine zz_goto (tgt := 109) C d_Mo_newNode_105 (by decide) ?_
    refine zz_iastR (j := sz) C hR d_Mo_newNode_109 (fun _ _ => rfl) rfl hsz (by decide) (fun h hR => ?_)
    refine zz_iconst (v := 0) C d_Mo_newNode_110 (by decide) ?_
    refine zz_istore C d_Mo_newNode_111 (by decide) rfl ?_
    have hR2 : zRep E ad al (nn1 μ sz T) pa h := by
      refine hR.eq ?_ rfl
      unfold nn1
      simp only [c_101, if_true, if_false]
      rfl
    exact lp_Mo_newNode (μ := μ) C Z hV.1 hP.1 hsz hpost n 0 rfl (Nat.zero_le _) h (hR2.eq (by unfold nn2; rw [wr8_0, wr8_0]; exact ((congrArg (fun q => va_up q 61 (μ 61)) (va_up_id (nn1 μ sz T) 60)).trans (va_up_id (nn1 μ sz T) 61)).symm) rfl)
/-- the rows ahead of the narrowing -/
def nn0 (μ : Nat → Nat → Int32) (sz : Nat) (a1 a2 a3 a4 : Int32) : Nat → Nat → Int32 := va_up (va_up (va_up (va_up (va_up (va_up μ 40 (upd (μ 40) 17 (nI (sz + 1)))) 53 (upd (μ 53) sz a1)) 54 (upd (μ 54) sz a2)) 55 (upd (μ 55) sz a3)) 56 (upd (μ 56) sz a4)) 59 (upd (μ 59) sz (-2))
theorem nn0_P {n rc sz : Nat} {V μ : Nat → Nat → Int32} {a1 a2 a3 a4 : Int32} (h : mP n rc V μ) : mP n rc V (nn0 μ sz a1 a2 a3 a4) := h
theorem nn0_B {sz : Nat} {V μ : Nat → Nat → Int32} {a1 a2 a3 a4 : Int32} (h : mBst V μ) : mBst V (nn0 μ sz a1 a2 a3 a4) := h
def nnR (μ : Nat → Nat → Int32) (sz n : Nat) : Nat → Nat → Int32 := tbF (nn0 μ sz (-1) (-1) 0 0) (μ 41) (μ 42) n
def nnC (μ : Nat → Nat → Int32) (sz n p a : Nat) (sd v : Int32) : Nat → Nat → Int32 := cutF (tbF (nn0 μ sz (nI p) (nI a) sd v) (fun k => μ 60 (8 * p + k)) (fun k => μ 61 (8 * p + k)) n) 62 63 a sd v
def nnF (V m : Nat → Nat → Int32) (sz n rc : Nat) : Nat → Nat → Int32 := nn2 m sz (nwF V n rc 1000 (m 62, m 63, 1)) n
set_option maxRecDepth 100000 in
set_option maxHeartbeats 4000000 in
theorem m_Mo_newNode_root {V : Nat → Nat → Int32} {n rc : Nat} (hV : vR n rc V) (hP : mP n rc V μ) (hS : sR rc V) (hB : mBst V μ) {sz : Nat} (hN : μ 40 17 = nI sz) (hsz : sz < 600)  (hb : bdR n ((nnR μ sz n) 62) ((nnR μ sz n) 63)) : wMet l y_Mo_newNode b_Mo_newNode 7 (some .int) (zR 3) E [.ref (ad 40), .int (-1), .int (-1), .int (0), .int (0)] ad al μ pa (some (.int (nI sz))) (nnF V (nnR μ sz n) sz n rc) pa := by
  intro h hR
  refine zMet.of (L := [some (.ref (ad 40)), some (.int (-1)), some (.int (-1)), some (.int (0)), some (.int (0)), none, none]) (by decide +kernel) (Nat.le_of_ble_eq_true rfl) rfl 2 rfl fun X hl C Z => ?_
  refine zz_aload_n C d_Mo_newNode_0 rfl rfl ?_
  refine zz_getV C hR (nI sz) _ d_Mo_newNode_1 zf_Mo_92 rfl rfl hN ?_
  refine zz_istore C d_Mo_newNode_4 (by decide) rfl ?_
  refine zz_aload_n C d_Mo_newNode_6 rfl rfl ?_
  refine zz_dup C d_Mo_newNode_7 rfl ?_
  refine zz_getV C hR (nI sz) _ d_Mo_newNode_8 zf_Mo_92 rfl rfl hN ?_
  refine zz_iconst (v := 1) C d_Mo_newNode_11 (by decide) ?_
  refine zz_iadd C d_Mo_newNode_12 ?_
  rw [nI_1]
  refine zz_putI C hR d_Mo_newNode_13 zp_Mo_92 rfl rfl rfl (Nat.le_of_ble_eq_true rfl) rfl (fun h hR => ?_)
  refine zz_aload_n C d_Mo_newNode_16 rfl rfl ?_
  refine zz_get C d_Mo_newNode_17 zf_Mo_52 ((hR _).trans rfl) rfl ?_
  refine zz_iload C d_Mo_newNode_20 rfl ?_
  refine zz_iload_n C d_Mo_newNode_22 rfl rfl ?_
  refine zz_iastR (j := sz) C hR d_Mo_newNode_23 (fun _ _ => rfl) rfl hsz (by decide) (fun h hR => ?_)
  refine zz_aload_n C d_Mo_newNode_24 rfl rfl ?_
  refine zz_get C d_Mo_newNode_25 zf_Mo_55 ((hR _).trans rfl) rfl ?_
  refine zz_iload C d_Mo_newNode_28 rfl ?_
  refine zz_iload_n C d_Mo_newNode_30 rfl rfl ?_
  refine zz_iastR (j := sz) C hR d_Mo_newNode_31 (fun _ _ => rfl) rfl hsz (by decide) (fun h hR => ?_)
  refine zz_aload_n C d_Mo_newNode_32 rfl rfl ?_
  refine zz_get C d_Mo_newNode_33 zf_Mo_58 ((hR _).trans rfl) rfl ?_
  refine zz_iload C d_Mo_newNode_36 rfl ?_
  refine zz_iload_n C d_Mo_newNode_38 rfl rfl ?_
  refine zz_iastR (j := sz) C hR d_Mo_newNode_39 (fun _ _ => rfl) rfl hsz (by decide) (fun h hR => ?_)
  refine zz_aload_n C d_Mo_newNode_40 rfl rfl ?_
  refine zz_get C d_Mo_newNode_41 zf_Mo_61 ((hR _).trans rfl) rfl ?_
  refine zz_iload C d_Mo_newNode_44 rfl ?_
  refine zz_iload C d_Mo_newNode_46 rfl ?_
  refine zz_iastR (j := sz) C hR d_Mo_newNode_48 (fun _ _ => rfl) rfl hsz (by decide) (fun h hR => ?_)
  refine zz_aload_n C d_Mo_newNode_49 rfl rfl ?_
  refine zz_get C d_Mo_newNode_50 zf_Mo_70 ((hR _).trans rfl) rfl ?_
  refine zz_iload C d_Mo_newNode_53 rfl ?_
  refine zz_bipush (v := -2) C d_Mo_newNode_55 (by decide) ?_
  refine zz_iastR (j := sz) C hR d_Mo_newNode_57 (fun _ _ => rfl) rfl hsz (by decide) (fun h hR => ?_)
  have hR : zRep E ad al (nn0 μ sz (-1) (-1) (0) (0)) pa h := hR
  refine zz_aload_n C d_Mo_newNode_58 rfl rfl ?_
  refine zz_iload_n C d_Mo_newNode_59 rfl rfl ?_
  refine zz_callVv (e := 0) C hR d_Mo_newNode_60 mk_Mo_154 zy_Mo_takeBounds (m_Mo_takeBounds_root hV.1 hP.1) ⟨by decide, by decide⟩ ⟨Nat.zero_le _, Nat.zero_le _⟩ rfl rfl rfl rfl (Nat.le_of_ble_eq_true rfl) (fun h hR => ?_)
  refine zz_iload_n C d_Mo_newNode_63 rfl rfl ?_
  refine zz_if_lt (tgt := 75) C d_Mo_newNode_64 (by decide) (fun c_64 => ?_) (fun c_64 => ?_)
  · exact tl_Mo_newNode (μ := nnR μ sz n) C Z hV ((nn0_P (sz := sz) (a1 := -1) (a2 := -1) (a3 := 0) (a4 := 0) hP).sc tbF_sc) hS ((nn0_B (sz := sz) (a1 := -1) (a2 := -1) (a3 := 0) (a4 := 0) hB).sc tbF_sc) hsz hb (fun h hR => ⟨rfl, rfl, hR⟩) h hR
  · exact absurd (by decide) c_64
set_option maxRecDepth 100000 in
set_option maxHeartbeats 4000000 in
theorem m_Mo_newNode_child {V : Nat → Nat → Int32} {n rc : Nat} (hV : vR n rc V) (hP : mP n rc V μ) (hS : sR rc V) (hB : mBst V μ) {sz : Nat} (hN : μ 40 17 = nI sz) (hsz : sz < 600) {p a : Nat} {sd v : Int32} (hp : p < sz) (ha : a < 8) (hb : bdR n ((nnC μ sz n p a sd v) 62) ((nnC μ sz n p a sd v) 63)) : wMet l y_Mo_newNode b_Mo_newNode 7 (some .int) (zR 3) E [.ref (ad 40), .int (nI p), .int (nI a), .int (sd), .int (v)] ad al μ pa (some (.int (nI sz))) (nnF V (nnC μ sz n p a sd v) sz n rc) pa := by
  intro h hR
  refine zMet.of (L := [some (.ref (ad 40)), some (.int (nI p)), some (.int (nI a)), some (.int (sd)), some (.int (v)), none, none]) (by decide +kernel) (Nat.le_of_ble_eq_true rfl) rfl 2 rfl fun X hl C Z => ?_
  refine zz_aload_n C d_Mo_newNode_0 rfl rfl ?_
  refine zz_getV C hR (nI sz) _ d_Mo_newNode_1 zf_Mo_92 rfl rfl hN ?_
  refine zz_istore C d_Mo_newNode_4 (by decide) rfl ?_
  refine zz_aload_n C d_Mo_newNode_6 rfl rfl ?_
  refine zz_dup C d_Mo_newNode_7 rfl ?_
  refine zz_getV C hR (nI sz) _ d_Mo_newNode_8 zf_Mo_92 rfl rfl hN ?_
  refine zz_iconst (v := 1) C d_Mo_newNode_11 (by decide) ?_
  refine zz_iadd C d_Mo_newNode_12 ?_
  rw [nI_1]
  refine zz_putI C hR d_Mo_newNode_13 zp_Mo_92 rfl rfl rfl (Nat.le_of_ble_eq_true rfl) rfl (fun h hR => ?_)
  refine zz_aload_n C d_Mo_newNode_16 rfl rfl ?_
  refine zz_get C d_Mo_newNode_17 zf_Mo_52 ((hR _).trans rfl) rfl ?_
  refine zz_iload C d_Mo_newNode_20 rfl ?_
  refine zz_iload_n C d_Mo_newNode_22 rfl rfl ?_
  refine zz_iastR (j := sz) C hR d_Mo_newNode_23 (fun _ _ => rfl) rfl hsz (by decide) (fun h hR => ?_)
  refine zz_aload_n C d_Mo_newNode_24 rfl rfl ?_
  refine zz_get C d_Mo_newNode_25 zf_Mo_55 ((hR _).trans rfl) rfl ?_
  refine zz_iload C d_Mo_newNode_28 rfl ?_
  refine zz_iload_n C d_Mo_newNode_30 rfl rfl ?_
  refine zz_iastR (j := sz) C hR d_Mo_newNode_31 (fun _ _ => rfl) rfl hsz (by decide) (fun h hR => ?_)
  refine zz_aload_n C d_Mo_newNode_32 rfl rfl ?_
  refine zz_get C d_Mo_newNode_33 zf_Mo_58 ((hR _).trans rfl) rfl ?_
  refine zz_iload C d_Mo_newNode_36 rfl ?_
  refine zz_iload_n C d_Mo_newNode_38 rfl rfl ?_
  refine zz_iastR (j := sz) C hR d_Mo_newNode_39 (fun _ _ => rfl) rfl hsz (by decide) (fun h hR => ?_)
  refine zz_aload_n C d_Mo_newNode_40 rfl rfl ?_
  refine zz_get C d_Mo_newNode_41 zf_Mo_61 ((hR _).trans rfl) rfl ?_
  refine zz_iload C d_Mo_newNode_44 rfl ?_
  refine zz_iload C d_Mo_newNode_46 rfl ?_
  refine zz_iastR (j := sz) C hR d_Mo_newNode_48 (fun _ _ => rfl) rfl hsz (by decide) (fun h hR => ?_)
  refine zz_aload_n C d_Mo_newNode_49 rfl rfl ?_
  refine zz_get C d_Mo_newNode_50 zf_Mo_70 ((hR _).trans rfl) rfl ?_
  refine zz_iload C d_Mo_newNode_53 rfl ?_
  refine zz_bipush (v := -2) C d_Mo_newNode_55 (by decide) ?_
  refine zz_iastR (j := sz) C hR d_Mo_newNode_57 (fun _ _ => rfl) rfl hsz (by decide) (fun h hR => ?_)
  have hR : zRep E ad al (nn0 μ sz (nI p) (nI a) (sd) (v)) pa h := hR
  refine zz_aload_n C d_Mo_newNode_58 rfl rfl ?_
  refine zz_iload_n C d_Mo_newNode_59 rfl rfl ?_
  refine zz_callVv (e := 0) C hR d_Mo_newNode_60 mk_Mo_154 zy_Mo_takeBounds (m_Mo_takeBounds (μ := (nn0 μ sz (nI p) (nI a) (sd) (v))) (j := p) hV.1 hP.1 (Nat.lt_trans hp hsz)) ⟨by decide, by decide⟩ ⟨Nat.zero_le _, Nat.zero_le _⟩ rfl rfl rfl rfl (Nat.le_of_ble_eq_true rfl) (fun h hR => ?_)
  refine zz_iload_n C d_Mo_newNode_63 rfl rfl ?_
  refine zz_if_lt (tgt := 75) C d_Mo_newNode_64 (by decide) (fun c_64 => ?_) (fun c_64 => ?_)
  · exact absurd c_64 (nI_pos (by omega))
  · refine zz_aload_n C d_Mo_newNode_67 rfl rfl ?_
    refine zz_iload_n C d_Mo_newNode_68 rfl rfl ?_
    refine zz_iload_n C d_Mo_newNode_69 rfl rfl ?_
    refine zz_iload C d_Mo_newNode_70 rfl ?_
    refine zz_callVv (e := 0) C hR d_Mo_newNode_72 mk_Mo_158 zy_Mo_cut (m_Mo_cut ha) ⟨by decide, by decide⟩ ⟨Nat.zero_le _, Nat.zero_le _⟩ rfl rfl rfl rfl (Nat.le_of_ble_eq_true rfl) (fun h hR => ?_)
    exact tl_Mo_newNode (μ := nnC μ sz n p a sd v) C Z hV (((nn0_P (sz := sz) (a1 := nI p) (a2 := nI a) (a3 := sd) (a4 := v) hP).sc tbF_sc).sc cutF_sc) hS (((nn0_B (sz := sz) (a1 := nI p) (a2 := nI a) (a3 := sd) (a4 := v) hB).sc tbF_sc).sc cutF_sc) hsz hb (fun h hR => ⟨rfl, rfl, hR⟩) h hR
end MNEW
