/-! MODEL: the tree beside the class's; pick, bound -/
/-- the model's tree is V's -/
def mT (n sz : Nat) (V μ : Nat → Nat → Int32) : Prop := μ 40 17 = nI sz ∧ ∀ j, j < sz → μ 53 j = V (100 + 4 * j) 2 ∧ μ 54 j = V (100 + 4 * j) 3 ∧ μ 55 j = V (100 + 4 * j) 4 ∧ μ 56 j = V (100 + 4 * j) 5 ∧ μ 57 j = V (100 + 4 * j) 7 ∧ μ 58 j = V (100 + 4 * j) 9 ∧ μ 59 j = V (100 + 4 * j) 10 ∧ ∀ k, k < n → μ 60 (8 * j + k) = V (100 + 4 * j + 2) k ∧ μ 61 (8 * j + k) = V (100 + 4 * j + 3) k
/-- of each NODE: its bounds are in order, its LOWER is that of its bounds -/
def tB (n sz : Nat) (V : Nat → Nat → Int32) : Prop := ∀ j, j < sz → bdR n (V (100 + 4 * j + 2)) (V (100 + 4 * j + 3)) ∧ V (100 + 4 * j) 8 = bl (V (100 + 4 * j + 2)) (V (100 + 4 * j + 3)) (V 4) 1 n
theorem mT.sc {n sz : Nat} {V μ m : Nat → Nat → Int32} (h : mT n sz V μ) (g : sc μ m) : mT n sz V m := by
  refine ⟨by rw [g.2 17 (by decide) (by decide)]; exact h.1, ?_⟩
  rw [g.1 53 (by decide) (by decide) (by decide), g.1 54 (by decide) (by decide) (by decide), g.1 55 (by decide) (by decide) (by decide), g.1 56 (by decide) (by decide) (by decide), g.1 57 (by decide) (by decide) (by decide), g.1 58 (by decide) (by decide) (by decide), g.1 59 (by decide) (by decide) (by decide), g.1 60 (by decide) (by decide) (by decide), g.1 61 (by decide) (by decide) (by decide)]
  exact h.2
section MPICK
variable {l : Launch} {E : zE} {ad : Nat → Nat} {al : Nat} {μ : Nat → Nat → Int32} {pa : Nat → Nat → Int64}
theorem m_Mo_lowerV {V : Nat → Nat → Int32} {n rc sz j : Nat} (hn : n ≤ 8) (hP : mP n rc V μ) (hT : mT n sz V μ) (hsz : sz ≤ 600) (hB : tB n sz V) (hf : fcR n (V 4)) (hj : j < sz) : sMet l y_Mo_lower b_Mo_lower 4 (some .int) (zR 1) E [.ref (ad 40), .int (nI j)] ad al μ pa (some (.int (V (100 + 4 * j) 8))) μ pa := by
  rw [(hB j hj).2]
  exact m_Mo_lower hn hP.1 (by omega) (fun k hk => ((hT.2 j hj).2.2.2.2.2.2.2 k hk).1) (fun k hk => ((hT.2 j hj).2.2.2.2.2.2.2 k hk).2) (fun k hk => (hP.2.2.1 k (by omega)).2.2) (hB j hj).1 hf
set_option maxRecDepth 100000 in
set_option maxHeartbeats 4000000 in
theorem lp_Mo_pick {X : zX} {post : Option Value → (Nat → Nat) → zH → Prop} (C : zc X E b_Mo_pick 4 "BranchTreesModel" (zR 2)) (Z : zr X E (some .int) 0 0 post) {V : Nat → Nat → Int32} {n rc sz : Nat} (hn : n ≤ 8) (hP : mP n rc V μ) (hT : mT n sz V μ) (hsz : sz ≤ 600) (hB : tB n sz V) (hf : fcR n (V 4)) (hrl : μ 51 0 = V 22 0) (hpost : ∀ m h, sc μ m → zRep E ad al m pa h → post (some (.int (pkI (pkF V (V 22 0) sz)))) ad h) :
    ∀ (d i : Nat) (w : Option Value) (m : Nat → Nat → Int32), sz - i = d → i ≤ sz → sc μ m → ∀ h, zRep E ad al m pa h → zz X E 4 ad 0 0 4 [some (.ref (ad 40)), some (.int (pkI (pkF V (V 22 0) i))), some (.int (nI i)), w] [] h := by
  intro d
  induction d with
  | zero =>
    intro i w m hd hin hs h hR
    have e : i = sz := by omega
    subst e
    have hTm := hT.sc hs
    refine zz_iload_n C d_Mo_pick_4 rfl rfl ?_
    refine zz_aload_n C d_Mo_pick_5 rfl rfl ?_
    refine zz_getV C hR (nI i) _ d_Mo_pick_6 zf_Mo_92 rfl rfl hTm.1 ?_
    refine zz_icmp_ge (tgt := 79) C d_Mo_pick_9 (by decide) (fun c_9 => ?_) (fun c_9 => ?_)
    · refine zz_iload_n C d_Mo_pick_79 rfl rfl ?_
      refine zz_iret C Z d_Mo_pick_80 ?_
      exact hpost m h hs hR
    · exact absurd (nI_le (Nat.le_refl _) (by omega)) c_9
  | succ d ih =>
    intro i w m hd hin hs h hR
    have hlt : i < sz := by omega
    have hi6 : i < 600 := by omega
    have hPm := hP.sc hs
    have hTm := hT.sc hs
    have hst : m 57 i = V (100 + 4 * i) 7 := (hTm.2 i hlt).2.2.2.2.1
    have hr0 : m 51 0 = V 22 0 := by rw [hs.1 51 (by decide) (by decide) (by decide)]; exact hrl
    have K57 : ∀ (b : Int32) (w : Option Value) (m : Nat → Nat → Int32), pkF V (V 22 0) (i + 1) = some i → sc μ m → ∀ h, zRep E ad al m pa h → zz X E 4 ad 0 0 57 [some (.ref (ad 40)), some (.int b), some (.int (nI i)), w] [] h := by
      intro b w m e hs h hR
      have K := fun w => ih (i + 1) w m (by omega) hlt hs h hR
      rw [e] at K
      refine zz_iconst (v := 1) C d_Mo_pick_57 (by decide) ?_
      refine zz_goto (tgt := 62) C d_Mo_pick_58 (by decide) ?_
      refine zz_istore_n C d_Mo_pick_62 rfl (by decide) rfl ?_
      refine zz_iload_n C d_Mo_pick_63 rfl rfl ?_
      refine zz_if_eq (tgt := 71) C d_Mo_pick_64 (by decide) (fun c_64 => ?_) (fun c_64 => ?_)
      · exact absurd c_64 (by decide)
      · refine zz_iload_n C d_Mo_pick_67 rfl rfl ?_
        refine zz_goto (tgt := 72) C d_Mo_pick_68 (by decide) ?_
        refine zz_istore_n C d_Mo_pick_72 rfl (by decide) rfl ?_
        refine zz_iinc C d_Mo_pick_73 rfl (nI_inc _) (by decide) rfl ?_
        refine zz_goto (tgt := 4) C d_Mo_pick_76 (by decide) ?_
        exact K _
    have K61 : ∀ (w : Option Value) (m : Nat → Nat → Int32), pkF V (V 22 0) (i + 1) = pkF V (V 22 0) i → sc μ m → ∀ h, zRep E ad al m pa h → zz X E 4 ad 0 0 61 [some (.ref (ad 40)), some (.int (pkI (pkF V (V 22 0) i))), some (.int (nI i)), w] [] h := by
      intro w m e hs h hR
      have K := fun w => ih (i + 1) w m (by omega) hlt hs h hR
      rw [e] at K
      refine zz_iconst (v := 0) C d_Mo_pick_61 (by decide) ?_
      refine zz_istore_n C d_Mo_pick_62 rfl (by decide) rfl ?_
      refine zz_iload_n C d_Mo_pick_63 rfl rfl ?_
      refine zz_if_eq (tgt := 71) C d_Mo_pick_64 (by decide) (fun c_64 => ?_) (fun c_64 => ?_)
      · refine zz_iload_n C d_Mo_pick_71 rfl rfl ?_
        refine zz_istore_n C d_Mo_pick_72 rfl (by decide) rfl ?_
        refine zz_iinc C d_Mo_pick_73 rfl (nI_inc _) (by decide) rfl ?_
        refine zz_goto (tgt := 4) C d_Mo_pick_76 (by decide) ?_
        exact K _
      · exact absurd rfl c_64
    have K73 : pkF V (V 22 0) (i + 1) = pkF V (V 22 0) i → zz X E 4 ad 0 0 73 [some (.ref (ad 40)), some (.int (pkI (pkF V (V 22 0) i))), some (.int (nI i)), w] [] h := by
      intro e
      have K := fun w => ih (i + 1) w m (by omega) hlt hs h hR
      rw [e] at K
      refine zz_iinc C d_Mo_pick_73 rfl (nI_inc _) (by decide) rfl ?_
      refine zz_goto (tgt := 4) C d_Mo_pick_76 (by decide) ?_
      exact K _
    have eS : pkF V (V 22 0) (i + 1) = pkS V (V 22 0) i (pkF V (V 22 0) i) := rfl
    cases hp : pkF V (V 22 0) i with
    | none =>
      rw [hp] at eS K61 K73
      refine zz_iload_n C d_Mo_pick_4 rfl rfl ?_
      refine zz_aload_n C d_Mo_pick_5 rfl rfl ?_
      refine zz_getV C hR (nI sz) _ d_Mo_pick_6 zf_Mo_92 rfl rfl hTm.1 ?_
      refine zz_icmp_ge (tgt := 79) C d_Mo_pick_9 (by decide) (fun c_9 => ?_) (fun c_9 => ?_)
      · exact absurd c_9 (nI_ge hlt (by omega))
      · refine zz_aload_n C d_Mo_pick_12 rfl rfl ?_
        refine zz_get C d_Mo_pick_13 zf_Mo_64 ((hR _).trans rfl) rfl ?_
        refine zz_iload_n C d_Mo_pick_16 rfl rfl ?_
        refine zz_ialdV (j := i) C hR (V (100 + 4 * i) 7) d_Mo_pick_17 (fun _ _ => rfl) rfl hi6 (by decide) hst ?_
        refine zz_if_ne (tgt := 73) C d_Mo_pick_18 (by decide) (fun c_18 => ?_) (fun c_18 => ?_)
        · exact K73 (by rw [eS]; simp only [pkS, c_18, not_false_eq_true, if_true])
        · refine zz_iload_n C d_Mo_pick_21 rfl rfl ?_
          refine zz_if_lt (tgt := 57) C d_Mo_pick_22 (by decide) (fun c_22 => ?_) (fun c_22 => ?_)
          · exact K57 _ _ m (by rw [eS]; simp [pkS, c_18]) hs h hR
          · exact absurd (by decide) c_22
    | some q =>
      have hqi := pkF_lt hp
      rw [hp] at eS K61 K73
      refine zz_iload_n C d_Mo_pick_4 rfl rfl ?_
      refine zz_aload_n C d_Mo_pick_5 rfl rfl ?_
      refine zz_getV C hR (nI sz) _ d_Mo_pick_6 zf_Mo_92 rfl rfl hTm.1 ?_
      refine zz_icmp_ge (tgt := 79) C d_Mo_pick_9 (by decide) (fun c_9 => ?_) (fun c_9 => ?_)
      · exact absurd c_9 (nI_ge hlt (by omega))
      · refine zz_aload_n C d_Mo_pick_12 rfl rfl ?_
        refine zz_get C d_Mo_pick_13 zf_Mo_64 ((hR _).trans rfl) rfl ?_
        refine zz_iload_n C d_Mo_pick_16 rfl rfl ?_
        refine zz_ialdV (j := i) C hR (V (100 + 4 * i) 7) d_Mo_pick_17 (fun _ _ => rfl) rfl hi6 (by decide) hst ?_
        refine zz_if_ne (tgt := 73) C d_Mo_pick_18 (by decide) (fun c_18 => ?_) (fun c_18 => ?_)
        · exact K73 (by rw [eS]; simp only [pkS, c_18, not_false_eq_true, if_true])
        · refine zz_iload_n C d_Mo_pick_21 rfl rfl ?_
          refine zz_if_lt (tgt := 57) C d_Mo_pick_22 (by decide) (fun c_22 => ?_) (fun c_22 => ?_)
          · exact absurd c_22 (nI_pos (by omega))
          · refine zz_aload_n C d_Mo_pick_25 rfl rfl ?_
            refine zz_get C d_Mo_pick_26 zf_Mo_46 ((hR _).trans rfl) rfl ?_
            refine zz_iconst (v := 0) C d_Mo_pick_29 (by decide) ?_
            refine zz_ialdV (j := 0) C hR (V 22 0) d_Mo_pick_30 (fun _ _ => rfl) rfl (by decide) (by decide) hr0 ?_
            refine zz_if_eq (tgt := 57) C d_Mo_pick_31 (by decide) (fun c_31 => ?_) (fun c_31 => ?_)
            · first
              | exact K57 _ _ _ (by rw [eS]; simp [pkS, ibF, c_9, c_18, c_22, c_31]) hs2 h hR
              | exact K57 _ _ _ (by rw [eS]; simp [pkS, ibF, c_9, c_18, c_22, c_31]) hs h hR
            · refine zz_aload_n C d_Mo_pick_34 rfl rfl ?_
              refine zz_get C d_Mo_pick_35 zf_Mo_46 ((hR _).trans rfl) rfl ?_
              refine zz_iconst (v := 0) C d_Mo_pick_38 (by decide) ?_
              refine zz_ialdV (j := 0) C hR (V 22 0) d_Mo_pick_39 (fun _ _ => rfl) rfl (by decide) (by decide) hr0 ?_
              refine zz_iconst (v := 1) C d_Mo_pick_40 (by decide) ?_
              refine zz_icmp_ne (tgt := 61) C d_Mo_pick_41 (by decide) (fun c_41 => ?_) (fun c_41 => ?_)
              · first
                | exact K61 _ _ (by rw [eS]; simp [pkS, ibF, c_9, c_18, c_22, c_31, c_41]) hs2 h hR
                | exact K61 _ _ (by rw [eS]; simp [pkS, ibF, c_9, c_18, c_22, c_31, c_41]) hs h hR
              · refine zz_aload_n C d_Mo_pick_44 rfl rfl ?_
                refine zz_iload_n C d_Mo_pick_45 rfl rfl ?_
                refine zz_callVs (e := 1) C hR d_Mo_pick_46 mk_Mo_168 zy_Mo_lower (m_Mo_lowerV hn hPm hTm hsz hB hf hlt) ⟨by decide, by decide⟩ ⟨Nat.zero_le _, Nat.zero_le _⟩ rfl rfl rfl rfl (Nat.le_of_ble_eq_true rfl) (fun h m1 hs_m1 hR => ?_)
                have hs1 := hs.tr hs_m1
                refine zz_aload_n C d_Mo_pick_49 rfl rfl ?_
                refine zz_iload_n C d_Mo_pick_50 rfl rfl ?_
                refine zz_callVs (e := 1) C hR d_Mo_pick_51 mk_Mo_168 zy_Mo_lower (m_Mo_lowerV hn (hP.sc hs1) (hT.sc hs1) hsz hB hf (by omega)) ⟨by decide, by decide⟩ ⟨Nat.zero_le _, Nat.zero_le _⟩ rfl rfl rfl rfl (Nat.le_of_ble_eq_true rfl) (fun h m2 hs_m2 hR => ?_)
                have hs2 := hs1.tr hs_m2
                refine zz_icmp_ge (tgt := 61) C d_Mo_pick_54 (by decide) (fun c_54 => ?_) (fun c_54 => ?_)
                · first
                  | exact K61 _ _ (by rw [eS]; simp [pkS, ibF, c_9, c_18, c_22, c_31, c_41, c_54]) hs2 h hR
                  | exact K61 _ _ (by rw [eS]; simp [pkS, ibF, c_9, c_18, c_22, c_31, c_41, c_54]) hs h hR
                · first
                  | exact K57 _ _ _ (by rw [eS]; simp [pkS, ibF, c_9, c_18, c_22, c_31, c_41, c_54]) hs2 h hR
                  | exact K57 _ _ _ (by rw [eS]; simp [pkS, ibF, c_9, c_18, c_22, c_31, c_41, c_54]) hs h hR
set_option maxRecDepth 100000 in
set_option maxHeartbeats 4000000 in
theorem m_Mo_pick {V : Nat → Nat → Int32} {n rc sz : Nat} (hn : n ≤ 8) (hP : mP n rc V μ) (hT : mT n sz V μ) (hsz : sz ≤ 600) (hB : tB n sz V) (hf : fcR n (V 4)) (hrl : μ 51 0 = V 22 0) : sMet l y_Mo_pick b_Mo_pick 4 (some .int) (zR 2) E [.ref (ad 40)] ad al μ pa (some (.int (pkI (pkF V (V 22 0) sz)))) μ pa := by
  intro h hR
  refine zMet.of (L := [some (.ref (ad 40)), none, none, none]) (by decide +kernel) (Nat.le_of_ble_eq_true rfl) rfl 3 rfl fun X hl C Z => ?_
  refine zz_iconst (v := -1) C d_Mo_pick_0 (by decide) ?_
  refine zz_istore_n C d_Mo_pick_1 rfl (by decide) rfl ?_
  refine zz_iconst (v := 0) C d_Mo_pick_2 (by decide) ?_
  refine zz_istore_n C d_Mo_pick_3 rfl (by decide) rfl ?_
  exact lp_Mo_pick C Z hn hP hT hsz hB hf hrl (fun m h hs hR => ⟨rfl, rfl, m, hs, hR⟩) sz 0 _ μ rfl (Nat.zero_le _) sc.rf h hR
set_option maxRecDepth 100000 in
set_option maxHeartbeats 4000000 in
theorem lp_Mo_bound {X : zX} {post : Option Value → (Nat → Nat) → zH → Prop} (C : zc X E b_Mo_bound 3 "BranchTreesModel" (zR 2)) (Z : zr X E (some .int) 0 0 post) {V : Nat → Nat → Int32} {n rc sz : Nat} (hn : n ≤ 8) (hP : mP n rc V μ) (hT : mT n sz V μ) (hsz : sz ≤ 600) (hB : tB n sz V) (hf : fcR n (V 4)) {lim : Int32} (hpost : ∀ m h, sc μ m → zRep E ad al m pa h → post (some (.int (loF V lim sz))) ad h) :
    ∀ (d i : Nat) (m : Nat → Nat → Int32), sz - i = d → i ≤ sz → sc μ m → ∀ h, zRep E ad al m pa h → zz X E 3 ad 0 0 34 [some (.ref (ad 40)), some (.int (loF V lim i)), some (.int (nI i))] [] h := by
  intro d
  induction d with
  | zero =>
    intro i m hd hin hs h hR
    have e : i = sz := by omega
    subst e
    have hTm := hT.sc hs
    refine zz_iload_n C d_Mo_bound_34 rfl rfl ?_
    refine zz_aload_n C d_Mo_bound_35 rfl rfl ?_
    refine zz_getV C hR (nI i) _ d_Mo_bound_36 zf_Mo_92 rfl rfl hTm.1 ?_
    refine zz_icmp_ge (tgt := 72) C d_Mo_bound_39 (by decide) (fun c_39 => ?_) (fun c_39 => ?_)
    · refine zz_iload_n C d_Mo_bound_72 rfl rfl ?_
      refine zz_iret C Z d_Mo_bound_73 ?_
      exact hpost m h hs hR
    · exact absurd (nI_le (Nat.le_refl _) (by omega)) c_39
  | succ d ih =>
    intro i m hd hin hs h hR
    have hlt : i < sz := by omega
    have hi6 : i < 600 := by omega
    have hPm := hP.sc hs
    have hTm := hT.sc hs
    have hst : m 57 i = V (100 + 4 * i) 7 := (hTm.2 i hlt).2.2.2.2.1
    have K := fun m hs => ih (i + 1) m (by omega) hlt hs
    simp only [loF] at K
    refine zz_iload_n C d_Mo_bound_34 rfl rfl ?_
    refine zz_aload_n C d_Mo_bound_35 rfl rfl ?_
    refine zz_getV C hR (nI sz) _ d_Mo_bound_36 zf_Mo_92 rfl rfl hTm.1 ?_
    refine zz_icmp_ge (tgt := 72) C d_Mo_bound_39 (by decide) (fun c_39 => ?_) (fun c_39 => ?_)
    · exact absurd c_39 (nI_ge hlt (by omega))
    · refine zz_aload_n C d_Mo_bound_42 rfl rfl ?_
      refine zz_get C d_Mo_bound_43 zf_Mo_64 ((hR _).trans rfl) rfl ?_
      refine zz_iload_n C d_Mo_bound_46 rfl rfl ?_
      refine zz_ialdV (j := i) C hR (V (100 + 4 * i) 7) d_Mo_bound_47 (fun _ _ => rfl) rfl hi6 (by decide) hst ?_
      refine zz_if_ne (tgt := 66) C d_Mo_bound_48 (by decide) (fun c_48 => ?_) (fun c_48 => ?_)
      · refine zz_iinc C d_Mo_bound_66 rfl (nI_inc _) (by decide) rfl ?_
        refine zz_goto (tgt := 34) C d_Mo_bound_69 (by decide) ?_
        simp only [minF, c_39, c_48, if_true, if_false, not_true_eq_false, not_false_eq_true] at K
        first
        | exact K _ hs2 h hR
        | exact K _ hs1 h hR
        | exact K _ hs h hR
      · refine zz_aload_n C d_Mo_bound_51 rfl rfl ?_
        refine zz_iload_n C d_Mo_bound_52 rfl rfl ?_
        refine zz_callVs (e := 1) C hR d_Mo_bound_53 mk_Mo_168 zy_Mo_lower (m_Mo_lowerV hn hPm hTm hsz hB hf hlt) ⟨by decide, by decide⟩ ⟨Nat.zero_le _, Nat.zero_le _⟩ rfl rfl rfl rfl (Nat.le_of_ble_eq_true rfl) (fun h m1 hs_m1 hR => ?_)
        have hs1 := hs.tr hs_m1
        refine zz_iload_n C d_Mo_bound_56 rfl rfl ?_
        refine zz_icmp_ge (tgt := 66) C d_Mo_bound_57 (by decide) (fun c_57 => ?_) (fun c_57 => ?_)
        · have c_57 := i32_nlt c_57
          refine zz_iinc C d_Mo_bound_66 rfl (nI_inc _) (by decide) rfl ?_
          refine zz_goto (tgt := 34) C d_Mo_bound_69 (by decide) ?_
          simp only [minF, c_39, c_48, c_57, if_true, if_false, not_true_eq_false, not_false_eq_true] at K
          first
          | exact K _ hs2 h hR
          | exact K _ hs1 h hR
          | exact K _ hs h hR
        · have c_57 := i32_lt c_57
          refine zz_aload_n C d_Mo_bound_60 rfl rfl ?_
          refine zz_iload_n C d_Mo_bound_61 rfl rfl ?_
          refine zz_callVs (e := 1) C hR d_Mo_bound_62 mk_Mo_168 zy_Mo_lower (m_Mo_lowerV hn (hP.sc hs1) (hT.sc hs1) hsz hB hf hlt) ⟨by decide, by decide⟩ ⟨Nat.zero_le _, Nat.zero_le _⟩ rfl rfl rfl rfl (Nat.le_of_ble_eq_true rfl) (fun h m2 hs_m2 hR => ?_)
          have hs2 := hs1.tr hs_m2
          refine zz_istore_n C d_Mo_bound_65 rfl (by decide) rfl ?_
          refine zz_iinc C d_Mo_bound_66 rfl (nI_inc _) (by decide) rfl ?_
          refine zz_goto (tgt := 34) C d_Mo_bound_69 (by decide) ?_
          simp only [minF, c_39, c_48, c_57, if_true, if_false, not_true_eq_false, not_false_eq_true] at K
          first
          | exact K _ hs2 h hR
          | exact K _ hs1 h hR
          | exact K _ hs h hR
def bdM (sz : Nat) (V : Nat → Nat → Int32) : Int32 := if ¬ nI sz = 0 then loF V (if V 9 1 = 0 then 1000000 else V 9 2) sz else -1000000
set_option maxRecDepth 100000 in
set_option maxHeartbeats 4000000 in
theorem m_Mo_bound {V : Nat → Nat → Int32} {n rc sz : Nat} (hn : n ≤ 8) (hP : mP n rc V μ) (hT : mT n sz V μ) (hsz : sz ≤ 600) (hB : tB n sz V) (hf : fcR n (V 4)) (hb : mBst V μ) : sMet l y_Mo_bound b_Mo_bound 3 (some .int) (zR 2) E [.ref (ad 40)] ad al μ pa (some (.int (bdM sz V))) μ pa := by
  intro h hR
  refine zMet.of (L := [some (.ref (ad 40)), none, none]) (by decide +kernel) (Nat.le_of_ble_eq_true rfl) rfl 2 rfl fun X hl C Z => ?_
  have hs0 : sc μ (va_up μ 40 (upd (μ 40) 0 0)) := ⟨fun k a _ _ => va_up_ne _ _ a, fun i h0 _ => pk_un h0⟩
  refine zz_aload_n C d_Mo_bound_0 rfl rfl ?_
  refine zz_iconst (v := 0) C d_Mo_bound_1 (by decide) ?_
  refine zz_putI C hR d_Mo_bound_2 zp_Mo_1 rfl rfl rfl (Nat.le_of_ble_eq_true rfl) rfl (fun h hR => ?_)
  refine zz_aload_n C d_Mo_bound_5 rfl rfl ?_
  refine zz_getV C hR (nI sz) _ d_Mo_bound_6 zf_Mo_92 rfl rfl hT.1 ?_
  refine zz_if_ne (tgt := 15) C d_Mo_bound_9 (by decide) (fun c_9 => ?_) (fun c_9 => ?_)
  · refine zz_aload_n C d_Mo_bound_15 rfl rfl ?_
    refine zz_getV C hR (V 9 1) _ d_Mo_bound_16 zf_Mo_98 rfl rfl hb.1 ?_
    refine zz_if_eq (tgt := 29) C d_Mo_bound_19 (by decide) (fun c_19 => ?_) (fun c_19 => ?_)
    · refine zz_ldc C _ d_Mo_bound_29 co_Mo_196 ?_
      refine zz_istore_n C d_Mo_bound_31 rfl (by decide) rfl ?_
      refine zz_iconst (v := 0) C d_Mo_bound_32 (by decide) ?_
      refine zz_istore_n C d_Mo_bound_33 rfl (by decide) rfl ?_
      exact lp_Mo_bound C Z hn hP hT hsz hB hf (fun m h hs hR => ⟨by simp [bdM, c_9, c_19], rfl, m, hs, hR⟩) sz 0 _ rfl (Nat.zero_le _) hs0 h hR
    · refine zz_aload_n C d_Mo_bound_22 rfl rfl ?_
      refine zz_getV C hR (V 9 2) _ d_Mo_bound_23 zf_Mo_136 rfl rfl hb.2 ?_
      refine zz_goto (tgt := 31) C d_Mo_bound_26 (by decide) ?_
      refine zz_istore_n C d_Mo_bound_31 rfl (by decide) rfl ?_
      refine zz_iconst (v := 0) C d_Mo_bound_32 (by decide) ?_
      refine zz_istore_n C d_Mo_bound_33 rfl (by decide) rfl ?_
      exact lp_Mo_bound C Z hn hP hT hsz hB hf (fun m h hs hR => ⟨by simp [bdM, c_9, c_19], rfl, m, hs, hR⟩) sz 0 _ rfl (Nat.zero_le _) hs0 h hR
  · refine zz_ldc C _ d_Mo_bound_12 co_Mo_195 ?_
    refine zz_iret C Z d_Mo_bound_14 ?_
    exact ⟨by simp [bdM, c_9], rfl, _, hs0, hR⟩
end MPICK
