/-! NARROWER.narrow -/
theorem clB.ch0 {μ m : Nat → Nat → Int32} {kl kh : Nat} {s : zB} (h : clB μ kl kh m s) (n2 : kl ≠ 16) (n3 : kh ≠ 16) : clB μ kl kh (va_up m 16 (upd (m 16) 2 0)) (s.1, s.2.1, 0) := by
  obtain ⟨h1, h2, h3, h4⟩ := h
  refine ⟨?_, ?_, ?_, fun k a b c => ?_⟩
  · rw [va_up_ne _ _ n2]; exact h1
  · rw [va_up_ne _ _ n3]; exact h2
  · rw [va_up_self, h3, upd_uu]
  · rw [va_up_ne _ _ c]; exact h4 k a b c
theorem goF_congr {m μ : Nat → Nat → Int32} {n : Nat} (h4 : m 4 = μ 4) (h5 : m 5 = μ 5) (h6 : m 6 = μ 6) (h9 : m 9 = μ 9) (hr : ∀ q, q < 16 → m (24 + q) = μ (24 + q)) : ∀ k r : Nat, r + k ≤ 16 → goF m n k r = goF μ n k r
  | 0, r, _ => by simp only [goF, h4, h9]
  | k + 1, r, h => by simp only [goF, h5, h6, hr r (by omega), goF_congr h4 h5 h6 h9 hr k (r + 1) (by omega)]
section NARROW2
variable {l : Launch} {E : zE} {ad : Nat → Nat} {al : Nat} {μ : Nat → Nat → Int32} {pa : Nat → Nat → Int64}
set_option maxRecDepth 100000 in
set_option maxHeartbeats 4000000 in
theorem lp_Nr_narrow {X : zX} {post : Option Value → (Nat → Nat) → zH → Prop} (C : zc X E b_Nr_narrow 4 "BranchTrees$Narrower" (zR 3)) (Z : zr X E (some .int) 0 0 post) {kb kl kh n : Nat} (hn : n ≤ 8) (hN : μ 1 7 = nI n) (hb : okB E ad al kb kl kh) {rc : Nat} (hrc : rc ≤ 16) (hM : μ 1 8 = nI rc) {T : Int32 × zB}
    (hpost : ∀ (m : Nat → Nat → Int32) (h : zH), clB μ kl kh m T.2 → zRep E ad al m pa h → post (some (.int T.1)) ad h) :
    ∀ (k i : Nat) (s : zB) (m : Nat → Nat → Int32) (w : Option Value), 1000 - i = k → i ≤ 1000 → nwF μ n rc k s = T → clB μ kl kh m s → ∀ h, zRep E ad al m pa h → zz X E 4 ad 0 0 2 [some (.ref (ad 16)), some (.ref (ad kb)), some (.int (nI i)), w] [] h := by
  have hb' := hb
  obtain ⟨hB, hL, hH, n1, k1, k2⟩ := hb
  intro k
  induction k with
  | zero =>
    intro i s m w hk hin hT hc h hR
    have e : i = 1000 := by omega
    subst e
    simp only [nwF] at hT
    refine zz_iload_n C d_Nr_narrow_2 rfl rfl ?_
    refine zz_sipush (v := 1000) C d_Nr_narrow_3 (by decide) ?_
    refine zz_icmp_ge (tgt := 41) C d_Nr_narrow_6 (by decide) (fun c_6 => ?_) (fun c_6 => ?_)
    · refine zz_bipush (v := -2) C d_Nr_narrow_41 (by decide) ?_
      refine zz_iret C Z d_Nr_narrow_43 ?_
      have q := hpost m h (by rw [← hT]; exact hc) hR
      rw [← hT] at q
      exact q
    · exact absurd (by decide) c_6
  | succ k ih =>
    intro i s m w hk hin hT hc h hR
    have hlt : i < 1000 := by omega
    have hc0 := hc.ch0 (by omega) (by omega)
    generalize hm' : va_up m 16 (upd (m 16) 2 0) = m' at hc0
    have hmN : m' 1 7 = nI n := by rw [hc0.fr k1 k2 (by omega) (by decide)]; exact hN
    have hmM : m' 1 8 = nI rc := by rw [hc0.fr k1 k2 (by omega) (by decide)]; exact hM
    have hs : ((m' kl, m' kh, m' 16 2) : zB) = (s.1, s.2.1, 0) := hc0.trip
    have hg : goF m' n rc 0 = goF μ n rc 0 := goF_congr (hc0.fr k1 k2 (by omega) (by decide)) (hc0.fr k1 k2 (by omega) (by decide)) (hc0.fr k1 k2 (by omega) (by decide)) (hc0.fr k1 k2 (by omega) (by decide)) (fun q hq => hc0.fr k1 k2 (by omega) (by omega)) rc 0 (by omega)
    simp only [nwF] at hT
    refine zz_iload_n C d_Nr_narrow_2 rfl rfl ?_
    refine zz_sipush (v := 1000) C d_Nr_narrow_3 (by decide) ?_
    refine zz_icmp_ge (tgt := 41) C d_Nr_narrow_6 (by decide) (fun c_6 => ?_) (fun c_6 => ?_)
    · exact absurd c_6 (nI_ge (b := 1000) hlt (by decide))
    · refine zz_aload_n C d_Nr_narrow_9 rfl rfl ?_
      refine zz_iconst (v := 0) C d_Nr_narrow_10 (by decide) ?_
      refine zz_putI C hR d_Nr_narrow_11 zp_Nr_19 rfl rfl rfl (Nat.le_of_ble_eq_true rfl) rfl (fun h hR => ?_)
      rw [hm'] at hR
      refine zz_aload_n C d_Nr_narrow_14 rfl rfl ?_
      refine zz_aload_n C d_Nr_narrow_15 rfl rfl ?_
      refine zz_callVw (e := 2) C hR d_Nr_narrow_16 mk_Nr_23 zy_Nr_goRound (m_Nr_goRound hn hmN hb' hrc hmM) ⟨by decide, by decide⟩ ⟨Nat.zero_le _, Nat.zero_le _⟩ rfl rfl rfl rfl (Nat.le_of_ble_eq_true rfl) (fun h hR => ?_)
      rw [hs, hg] at hR
      rw [hs, hg]
      have hc1 := hc0.step (s' := (goF μ n rc 0 (s.1, s.2.1, 0)).2) n1 (by omega) (by omega)
      refine zz_istore_n C d_Nr_narrow_19 rfl (by decide) rfl ?_
      refine zz_iload_n C d_Nr_narrow_20 rfl rfl ?_
      refine zz_bipush (v := -2) C d_Nr_narrow_21 (by decide) ?_
      refine zz_icmp_ne (tgt := 33) C d_Nr_narrow_23 (by decide) (fun c_23 => ?_) (fun c_23 => ?_)
      · refine zz_iload_n C d_Nr_narrow_33 rfl rfl ?_
        refine zz_iret C Z d_Nr_narrow_34 ?_
        simp only [c_6, c_23, if_true, if_false, not_true_eq_false, not_false_eq_true] at hT
        have q := hpost _ h (by rw [← hT]; exact hc1) hR
        rw [← hT] at q
        first | exact q | (rw [c_23] at q; exact q)
      · refine zz_aload_n C d_Nr_narrow_26 rfl rfl ?_
        refine zz_getV C hR ((goF μ n rc 0 (s.1, s.2.1, 0)).2.2.2) _ d_Nr_narrow_27 zf_Nr_19 rfl rfl (by rw [hc1.2.2.1, pk_us]) ?_
        refine zz_if_ne (tgt := 35) C d_Nr_narrow_30 (by decide) (fun c_30 => ?_) (fun c_30 => ?_)
        · refine zz_iinc C d_Nr_narrow_35 rfl (nI_inc _) (by decide) rfl ?_
          refine zz_goto (tgt := 2) C d_Nr_narrow_38 (by decide) ?_
          simp only [c_6, c_23, c_30, if_true, if_false, not_true_eq_false, not_false_eq_true] at hT
          exact ih (i + 1) _ _ _ (by omega) hlt hT hc1 h hR
        · refine zz_iload_n C d_Nr_narrow_33 rfl rfl ?_
          refine zz_iret C Z d_Nr_narrow_34 ?_
          simp only [c_6, c_23, c_30, if_true, if_false, not_true_eq_false, not_false_eq_true] at hT
          have q := hpost _ h (by rw [← hT]; exact hc1) hR
          rw [← hT] at q
          first | exact q | (rw [c_23] at q; exact q)
set_option maxRecDepth 100000 in
set_option maxHeartbeats 4000000 in
theorem m_Nr_narrow {kb kl kh n : Nat} (hn : n ≤ 8) (hN : μ 1 7 = nI n) (hb : okB E ad al kb kl kh) {rc : Nat} (hrc : rc ≤ 16) (hM : μ 1 8 = nI rc) : wMet l y_Nr_narrow b_Nr_narrow 4 (some .int) (zR 3) E [.ref (ad 16), .ref (ad kb)] ad al μ pa (some (.int (nwF μ n rc 1000 (μ kl, μ kh, μ 16 2)).1)) (setB μ kl kh (nwF μ n rc 1000 (μ kl, μ kh, μ 16 2)).2) pa := by
  obtain ⟨hB, hL, hH, n1, k1, k2⟩ := id hb
  intro h hR
  refine zMet.of (L := [some (.ref (ad 16)), some (.ref (ad kb)), none, none]) (by decide +kernel) (Nat.le_of_ble_eq_true rfl) rfl 2 rfl fun X hl C Z => ?_
  refine zz_iconst (v := 0) C d_Nr_narrow_0 (by decide) ?_
  refine zz_istore_n C d_Nr_narrow_1 rfl (by decide) rfl ?_
  exact lp_Nr_narrow C Z hn hN hb hrc hM (T := nwF μ n rc 1000 (μ kl, μ kh, μ 16 2)) (fun m h hc hR => ⟨rfl, rfl, hR.eq (hc.eq (by omega) (by omega)) rfl⟩) 1000 0 _ μ _ rfl (Nat.zero_le _) rfl clB.rf h hR
end NARROW2
