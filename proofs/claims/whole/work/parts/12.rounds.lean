/-! NARROWER: rounds -/
/-- a box that is a node's or the proof's -/
def okB (E : zE) (ad : Nat → Nat) (al kb kl kh : Nat) : Prop := isB E ad al kb kl kh ∧ isA E ad al kl 8 ∧ isA E ad al kh 8 ∧ kl ≠ kh ∧ (kl = 20 ∨ 100 ≤ kl) ∧ (kh = 21 ∨ 100 ≤ kh)
theorem clB.fr {μ m : Nat → Nat → Int32} {kl kh k : Nat} {s : zB} (h : clB μ kl kh m s) (h1 : kl = 20 ∨ 100 ≤ kl) (h2 : kh = 21 ∨ 100 ≤ kh) (hk : k < 20 ∨ 22 ≤ k ∧ k < 100) (h16 : k ≠ 16) : m k = μ k := h.2.2.2 k (by omega) (by omega) h16
/-- one sense of one row -/
def rsF (sense : Int32) (f : Nat → Int32) (right sg : Int32) (n : Nat) (s : zB) : Int32 × zB := if bindsF sense sg = 0 then (0, s) else closesF f sg (sg * right) n s
def stF (sense : Int32) (f : Nat → Int32) (right sg : Int32) (n r : Nat) (next : zB → Int32 × zB) (s : zB) : Int32 × zB := if (rsF sense f right sg n s).1 = 0 then next (rsF sense f right sg n s).2 else (nI r, (rsF sense f right sg n s).2)
def ceF (fnd low : Int32) (cs : Nat → Int32) (n : Nat) (s : zB) : Int32 × zB := if fnd = 0 then (-2, s) else if (closesF cs 1 (low - 1) n s).1 = 0 then (-2, (closesF cs 1 (low - 1) n s).2) else (16, (closesF cs 1 (low - 1) n s).2)
def goF (μ : Nat → Nat → Int32) (n : Nat) : Nat → Nat → zB → Int32 × zB
  | 0, _ => ceF (μ 9 1) (μ 9 2) (μ 4) n
  | k + 1, r => stF (μ 5 r) (μ (24 + r)) (μ 6 r) 1 n r (stF (μ 5 r) (μ (24 + r)) (μ 6 r) (-1) n r (goF μ n k (r + 1)))
def nwF (μ : Nat → Nat → Int32) (n rc : Nat) : Nat → zB → Int32 × zB
  | 0, s => (-2, s)
  | k + 1, s => if ¬ (goF μ n rc 0 (s.1, s.2.1, 0)).1 = -2 then goF μ n rc 0 (s.1, s.2.1, 0) else if ¬ (goF μ n rc 0 (s.1, s.2.1, 0)).2.2.2 = 0 then nwF μ n rc k (goF μ n rc 0 (s.1, s.2.1, 0)).2 else goF μ n rc 0 (s.1, s.2.1, 0)
/-- what closes leaves, seen from where the walk began -/
theorem clB.step {μ m : Nat → Nat → Int32} {kl kh : Nat} {s s' : zB} (h : clB μ kl kh m s) (n1 : kl ≠ kh) (n2 : kl ≠ 16) (n3 : kh ≠ 16) : clB μ kl kh (setB m kl kh s') s' := by
  obtain ⟨g1, g2, g3, g4⟩ := clB.of (μ := m) (s := s') n1 n2 n3
  exact ⟨g1, g2, by rw [g3, h.2.2.1, upd_uu], fun k a b c => by rw [g4 k a b c, h.2.2.2 k a b c]⟩
theorem clB.trip {μ m : Nat → Nat → Int32} {kl kh : Nat} {s : zB} (h : clB μ kl kh m s) : ((m kl, m kh, m 16 2) : zB) = s := by
  obtain ⟨h1, h2, h3, -⟩ := h
  rw [h1, h2, h3, pk_us]
section ROUNDS
variable {l : Launch} {E : zE} {ad : Nat → Nat} {al : Nat} {μ : Nat → Nat → Int32} {pa : Nat → Nat → Int64}
set_option maxRecDepth 100000 in
set_option maxHeartbeats 4000000 in
theorem st_Nr_goRound {X : zX} {post : Option Value → (Nat → Nat) → zH → Prop} (C : zc X E b_Nr_goRound 4 "BranchTrees$Narrower" (zR 2)) (Z : zr X E (some .int) 0 0 post) {kb kl kh n : Nat} (hn : n ≤ 8) (hN : μ 1 7 = nI n) (hb : okB E ad al kb kl kh) {r : Nat} (hr : r < 16) {sg sg' : Int32} (hsg : ¬ sg < -1) (hsg' : sg + Int32.ofInt (-2) = sg') {next : zB → Int32 × zB} {T : Int32 × zB}
    (hpost : ∀ (m : Nat → Nat → Int32) (h : zH), clB μ kl kh m T.2 → zRep E ad al m pa h → post (some (.int T.1)) ad h)
    (kn : ∀ (s : zB) (m : Nat → Nat → Int32), next s = T → clB μ kl kh m s → ∀ h, zRep E ad al m pa h → zz X E 4 ad 0 0 15 [some (.ref (ad 16)), some (.ref (ad kb)), some (.int (nI r)), some (.int sg')] [] h) :
    ∀ (s : zB) (m : Nat → Nat → Int32), stF (μ 5 r) (μ (24 + r)) (μ 6 r) sg n r next s = T → clB μ kl kh m s → ∀ h, zRep E ad al m pa h → zz X E 4 ad 0 0 15 [some (.ref (ad 16)), some (.ref (ad kb)), some (.int (nI r)), some (.int sg)] [] h := by
  obtain ⟨hB, hL, hH, n1, k1, k2⟩ := hb
  intro s m hT hc h hR
  have hmN : m 1 7 = nI n := by rw [hc.fr k1 k2 (by omega) (by decide)]; exact hN
  have hm5 : m 5 = μ 5 := hc.fr k1 k2 (by omega) (by decide)
  have hm6 : m 6 = μ 6 := hc.fr k1 k2 (by omega) (by decide)
  have hmr : m (24 + r) = μ (24 + r) := hc.fr k1 k2 (by omega) (by omega)
  have hs : ((m kl, m kh, m 16 2) : zB) = s := hc.trip
  refine zz_iload_n C d_Nr_goRound_15 rfl rfl ?_
  refine zz_iconst (v := -1) C d_Nr_goRound_16 (by decide) ?_
  refine zz_icmp_lt (tgt := 69) C d_Nr_goRound_17 (by decide) (fun c_17 => ?_) (fun c_17 => ?_)
  · exact absurd c_17 hsg
  · refine zz_aload_n C d_Nr_goRound_20 rfl rfl ?_
    refine zz_get C d_Nr_goRound_21 zf_Nr_9 ((hR _).trans rfl) rfl ?_
    refine zz_iload_n C d_Nr_goRound_24 rfl rfl ?_
    refine zz_iload_n C d_Nr_goRound_25 rfl rfl ?_
    refine zz_callVr (e := 0) C hR d_Nr_goRound_26 mk_Nr_33 zy_Pb_binds (m_Pb_binds hr) ⟨by decide, by decide⟩ ⟨Nat.zero_le _, Nat.zero_le _⟩ rfl rfl rfl rfl (Nat.le_of_ble_eq_true rfl) ?_
    rw [hm5]
    refine zz_if_eq (tgt := 63) C d_Nr_goRound_29 (by decide) (fun c_29 => ?_) (fun c_29 => ?_)
    · refine zz_iinc C d_Nr_goRound_63 rfl hsg' (by decide) rfl ?_
      refine zz_goto (tgt := 15) C d_Nr_goRound_66 (by decide) ?_
      refine kn (rsF (μ 5 r) (μ (24 + r)) (μ 6 r) sg n s).2 _ ?_ ?_ h hR
      · rw [← hT]; simp only [stF, rsF, c_17, c_29, if_true, if_false]
      · simp only [rsF, c_17, c_29, if_true, if_false]
        first | exact hc | exact hc.step n1 (by omega) (by omega)
    · refine zz_aload_n C d_Nr_goRound_32 rfl rfl ?_
      refine zz_aload_n C d_Nr_goRound_33 rfl rfl ?_
      refine zz_aload_n C d_Nr_goRound_34 rfl rfl ?_
      refine zz_get C d_Nr_goRound_35 zf_Nr_9 ((hR _).trans rfl) rfl ?_
      refine zz_get C d_Nr_goRound_38 zf_Nr_37 ((hR _).trans rfl) rfl ?_
      refine zz_iload_n C d_Nr_goRound_41 rfl rfl ?_
      refine zz_rowR (r := r) C hR d_Nr_goRound_42 rfl hr ?_
      refine zz_iload_n C d_Nr_goRound_43 rfl rfl ?_
      refine zz_iload_n C d_Nr_goRound_44 rfl rfl ?_
      refine zz_aload_n C d_Nr_goRound_45 rfl rfl ?_
      refine zz_get C d_Nr_goRound_46 zf_Nr_9 ((hR _).trans rfl) rfl ?_
      refine zz_get C d_Nr_goRound_49 zf_Nr_41 ((hR _).trans rfl) rfl ?_
      refine zz_iload_n C d_Nr_goRound_52 rfl rfl ?_
      refine zz_ialdV (j := r) C hR (μ 6 r) d_Nr_goRound_53 (fun _ _ => rfl) rfl hr (by decide) (by rw [hm6]) ?_
      refine zz_imul C d_Nr_goRound_54 ?_
      refine zz_callVw (e := 1) C hR d_Nr_goRound_55 mk_Nr_45 zy_Nr_closes (m_Nr_closes hn hmN hB hL hH n1 (by omega) (by omega) (by omega) (by omega) (zb_row E ad al hr) (by omega) (by omega) (by omega)) ⟨by decide, by decide⟩ ⟨Nat.zero_le _, Nat.zero_le _⟩ rfl rfl rfl rfl (Nat.le_of_ble_eq_true rfl) (fun h hR => ?_)
      rw [hs, hmr] at hR
      rw [hs, hmr]
      refine zz_if_eq (tgt := 63) C d_Nr_goRound_58 (by decide) (fun c_58 => ?_) (fun c_58 => ?_)
      · refine zz_iinc C d_Nr_goRound_63 rfl hsg' (by decide) rfl ?_
        refine zz_goto (tgt := 15) C d_Nr_goRound_66 (by decide) ?_
        refine kn (rsF (μ 5 r) (μ (24 + r)) (μ 6 r) sg n s).2 _ ?_ ?_ h hR
        · rw [← hT]; simp only [stF, rsF, c_17, c_29, c_58, if_true, if_false]
        · simp only [rsF, c_17, c_29, c_58, if_true, if_false]
          first | exact hc | exact hc.step n1 (by omega) (by omega)
      · refine zz_iload_n C d_Nr_goRound_61 rfl rfl ?_
        refine zz_iret C Z d_Nr_goRound_62 ?_
        have e : (nI r, (closesF (μ (24 + r)) sg (sg * μ 6 r) n s).2) = T := by rw [← hT]; simp only [stF, rsF, c_17, c_29, c_58, if_true, if_false]
        have q := hpost _ h (by rw [← e]; exact hc.step n1 (by omega) (by omega)) hR
        rw [← e] at q
        exact q
set_option maxRecDepth 100000 in
set_option maxHeartbeats 4000000 in
theorem lp_Nr_goRound {X : zX} {post : Option Value → (Nat → Nat) → zH → Prop} (C : zc X E b_Nr_goRound 4 "BranchTrees$Narrower" (zR 2)) (Z : zr X E (some .int) 0 0 post) {kb kl kh n : Nat} (hn : n ≤ 8) (hN : μ 1 7 = nI n) (hb : okB E ad al kb kl kh) {rc : Nat} (hrc : rc ≤ 16) (hM : μ 1 8 = nI rc) {T : Int32 × zB}
    (hpost : ∀ (m : Nat → Nat → Int32) (h : zH), clB μ kl kh m T.2 → zRep E ad al m pa h → post (some (.int T.1)) ad h) :
    ∀ (k r : Nat) (s : zB) (m : Nat → Nat → Int32) (w : Option Value), rc - r = k → r ≤ rc → goF μ n k r s = T → clB μ kl kh m s → ∀ h, zRep E ad al m pa h → zz X E 4 ad 0 0 2 [some (.ref (ad 16)), some (.ref (ad kb)), some (.int (nI r)), w] [] h := by
  have hb' := hb
  obtain ⟨hB, hL, hH, n1, k1, k2⟩ := hb
  intro k
  induction k with
  | zero =>
    intro r s m w hk hin hT hc h hR
    have e : r = rc := by omega
    subst e
    have hmN : m 1 7 = nI n := by rw [hc.fr k1 k2 (by omega) (by decide)]; exact hN
    have hmM : m 1 8 = nI r := by rw [hc.fr k1 k2 (by omega) (by decide)]; exact hM
    have hm9 : m 9 = μ 9 := hc.fr k1 k2 (by omega) (by decide)
    have hm4 : m 4 = μ 4 := hc.fr k1 k2 (by omega) (by decide)
    have hs : ((m kl, m kh, m 16 2) : zB) = s := hc.trip
    simp only [goF, ceF] at hT
    refine zz_iload_n C d_Nr_goRound_2 rfl rfl ?_
    refine zz_aload_n C d_Nr_goRound_3 rfl rfl ?_
    refine zz_get C d_Nr_goRound_4 zf_Nr_9 ((hR _).trans rfl) rfl ?_
    refine zz_getV C hR (nI r) _ d_Nr_goRound_7 zf_Nr_27 rfl rfl hmM ?_
    refine zz_icmp_ge (tgt := 75) C d_Nr_goRound_10 (by decide) (fun c_10 => ?_) (fun c_10 => ?_)
    · refine zz_aload_n C d_Nr_goRound_75 rfl rfl ?_
      refine zz_get C d_Nr_goRound_76 zf_Nr_15 ((hR _).trans rfl) rfl ?_
      refine zz_getV C hR (μ 9 1) _ d_Nr_goRound_79 zf_Nr_49 rfl rfl (by rw [hm9]) ?_
      refine zz_if_eq (tgt := 113) C d_Nr_goRound_82 (by decide) (fun c_82 => ?_) (fun c_82 => ?_)
      · refine zz_bipush (v := -2) C d_Nr_goRound_113 (by decide) ?_
        refine zz_iret C Z d_Nr_goRound_115 ?_
        simp only [c_10, c_82, if_true, if_false] at hT
        have q := hpost _ h (by rw [← hT]; first | exact hc | exact hc.step n1 (by omega) (by omega)) hR
        rw [← hT] at q
        exact q
      · refine zz_aload_n C d_Nr_goRound_85 rfl rfl ?_
        refine zz_aload_n C d_Nr_goRound_86 rfl rfl ?_
        refine zz_aload_n C d_Nr_goRound_87 rfl rfl ?_
        refine zz_get C d_Nr_goRound_88 zf_Nr_9 ((hR _).trans rfl) rfl ?_
        refine zz_get C d_Nr_goRound_91 zf_Nr_54 ((hR _).trans rfl) rfl ?_
        refine zz_iconst (v := 1) C d_Nr_goRound_94 (by decide) ?_
        refine zz_aload_n C d_Nr_goRound_95 rfl rfl ?_
        refine zz_get C d_Nr_goRound_96 zf_Nr_15 ((hR _).trans rfl) rfl ?_
        refine zz_getV C hR (μ 9 2) _ d_Nr_goRound_99 zf_Nr_57 rfl rfl (by rw [hm9]) ?_
        refine zz_iconst (v := 1) C d_Nr_goRound_102 (by decide) ?_
        refine zz_isub C d_Nr_goRound_103 ?_
        refine zz_callVw (e := 1) C hR d_Nr_goRound_104 mk_Nr_45 zy_Nr_closes (m_Nr_closes hn hmN hB hL hH n1 (by omega) (by omega) (by omega) (by omega) (kf := 4) (fun _ _ => rfl) (by omega) (by omega) (by omega)) ⟨by decide, by decide⟩ ⟨Nat.zero_le _, Nat.zero_le _⟩ rfl rfl rfl rfl (Nat.le_of_ble_eq_true rfl) (fun h hR => ?_)
        rw [hs, hm4] at hR
        rw [hs, hm4]
        refine zz_if_eq (tgt := 113) C d_Nr_goRound_107 (by decide) (fun c_107 => ?_) (fun c_107 => ?_)
        · refine zz_bipush (v := -2) C d_Nr_goRound_113 (by decide) ?_
          refine zz_iret C Z d_Nr_goRound_115 ?_
          simp only [c_10, c_82, c_107, if_true, if_false] at hT
          have q := hpost _ h (by rw [← hT]; first | exact hc | exact hc.step n1 (by omega) (by omega)) hR
          rw [← hT] at q
          exact q
        · refine zz_bipush (v := 16) C d_Nr_goRound_110 (by decide) ?_
          refine zz_iret C Z d_Nr_goRound_112 ?_
          simp only [c_10, c_82, c_107, if_true, if_false] at hT
          have q := hpost _ h (by rw [← hT]; first | exact hc | exact hc.step n1 (by omega) (by omega)) hR
          rw [← hT] at q
          exact q
    · exact absurd (nI_le (Nat.le_refl _) (by omega)) c_10
  | succ k ih =>
    intro r s m w hk hin hT hc h hR
    have hlt : r < rc := by omega
    have hmM : m 1 8 = nI rc := by rw [hc.fr k1 k2 (by omega) (by decide)]; exact hM
    have K3 : ∀ (s : zB) (m : Nat → Nat → Int32), goF μ n k (r + 1) s = T → clB μ kl kh m s → ∀ h, zRep E ad al m pa h → zz X E 4 ad 0 0 15 [some (.ref (ad 16)), some (.ref (ad kb)), some (.int (nI r)), some (.int (-3))] [] h := by
      intro s m hT hc h hR
      refine zz_iload_n C d_Nr_goRound_15 rfl rfl ?_
      refine zz_iconst (v := -1) C d_Nr_goRound_16 (by decide) ?_
      refine zz_icmp_lt (tgt := 69) C d_Nr_goRound_17 (by decide) (fun c_17 => ?_) (fun c_17 => ?_)
      · refine zz_iinc C d_Nr_goRound_69 rfl (nI_inc _) (by decide) rfl ?_
        refine zz_goto (tgt := 2) C d_Nr_goRound_72 (by decide) ?_
        exact ih (r + 1) s m _ (by omega) hlt hT hc h hR
      · exact absurd (by decide) c_17
    have K2 := st_Nr_goRound C Z hn hN hb' (r := r) (by omega) (sg := -1) (sg' := -3) (by decide) (by decide) hpost K3
    have K1 := st_Nr_goRound C Z hn hN hb' (r := r) (by omega) (sg := 1) (sg' := -1) (by decide) (by decide) hpost K2
    refine zz_iload_n C d_Nr_goRound_2 rfl rfl ?_
    refine zz_aload_n C d_Nr_goRound_3 rfl rfl ?_
    refine zz_get C d_Nr_goRound_4 zf_Nr_9 ((hR _).trans rfl) rfl ?_
    refine zz_getV C hR (nI rc) _ d_Nr_goRound_7 zf_Nr_27 rfl rfl hmM ?_
    refine zz_icmp_ge (tgt := 75) C d_Nr_goRound_10 (by decide) (fun c_10 => ?_) (fun c_10 => ?_)
    · exact absurd c_10 (nI_ge hlt (by omega))
    · refine zz_iconst (v := 1) C d_Nr_goRound_13 (by decide) ?_
      refine zz_istore_n C d_Nr_goRound_14 rfl (by decide) rfl ?_
      exact K1 s m hT hc h hR
set_option maxRecDepth 100000 in
set_option maxHeartbeats 4000000 in
theorem m_Nr_goRound {kb kl kh n : Nat} (hn : n ≤ 8) (hN : μ 1 7 = nI n) (hb : okB E ad al kb kl kh) {rc : Nat} (hrc : rc ≤ 16) (hM : μ 1 8 = nI rc) : wMet l y_Nr_goRound b_Nr_goRound 4 (some .int) (zR 2) E [.ref (ad 16), .ref (ad kb)] ad al μ pa (some (.int (goF μ n rc 0 (μ kl, μ kh, μ 16 2)).1)) (setB μ kl kh (goF μ n rc 0 (μ kl, μ kh, μ 16 2)).2) pa := by
  obtain ⟨hB, hL, hH, n1, k1, k2⟩ := id hb
  intro h hR
  refine zMet.of (L := [some (.ref (ad 16)), some (.ref (ad kb)), none, none]) (by decide +kernel) (Nat.le_of_ble_eq_true rfl) rfl 2 rfl fun X hl C Z => ?_
  refine zz_iconst (v := 0) C d_Nr_goRound_0 (by decide) ?_
  refine zz_istore_n C d_Nr_goRound_1 rfl (by decide) rfl ?_
  exact lp_Nr_goRound C Z hn hN hb hrc hM (T := goF μ n rc 0 (μ kl, μ kh, μ 16 2)) (fun m h hc hR => ⟨rfl, rfl, hR.eq (hc.eq (by omega) (by omega)) rfl⟩) rc 0 _ μ _ rfl (Nat.zero_le _) rfl clB.rf h hR
end ROUNDS
